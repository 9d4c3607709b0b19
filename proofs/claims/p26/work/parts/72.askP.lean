/-! what a deck answers, of what it holds -/
section AK
variable {M R Fm : Nat} {T S : Nat → Nat} {sto dro fou told rolls frm : Int32} {le sh tk sr se r : kF}
abbrev abV (sto dro fou : Int32) (M R Fm : Nat) (T S : Nat → Nat) (le : kF) (w : Nat) : Int32 := match w with
  | 0 => nI Fm
  | 1 => nI (nin R Fm S Fm)
  | 2 => nI R
  | 3 => nI (npts R Fm T S 10)
  | 4 => sto
  | 5 => dro
  | 6 => fou
  | 7 => nI (npop M 10)
  | 8 => nI (npop (nless 1023 (nmore le 3)) 10)
  | _ => nI (if Fm = 10 then 1 else 0)
theorem rollsF (hI : SInv R Fm T S) (hC : CSH R Fm T S rolls frm tk sr) : fn_X4_rollsIn rolls frm sr frm = some (nI (nin R Fm S Fm)) := by
  have hF := hI.1
  by_cases z : Fm < 10
  · have := rollsIn_c hI hC z
    rwa [← hC.2.1] at this
  · have z2 : Fm = 10 := by omega
    subst z2
    have s1 := startOf_c hI hC (f := 10) (by omega)
    have s2 : fn_X4_startOf rolls frm sr (nI 11) = some (nI R) := by
      unfold fn_X4_startOf
      rw [if_neg (show ¬ nI 11 < 0 by decide), if_pos (show (10 : Int32) < nI 11 by decide), ← hC.1]
      rfl
    unfold fn_X4_rollsIn
    have ef : frm = nI 10 := hC.2.1
    rw [ef] at s1 s2 ⊢
    rw [show nI 10 + (1 : Int32) = nI 11 from rfl, s2, kbs, s1, kbs]
    have : nin R 10 S 10 = R - nst R 10 S 10 := by
      unfold nin
      rw [show nst R 10 S (10 + 1) = R from if_neg (by omega)]
    rw [this, pk_sub (nst_le hI 10)]
theorem ask_about (h : SRel M R Fm T S sto dro fou told le sh rolls frm tk sr se r) {w : Nat} (hw : w < 10) : fn_X7_about sto dro fou told le rolls frm tk sr (nI w) = some (0, abV sto dro fou M R Fm T S le w) := by
  obtain ⟨rfl, hP, hI, hC, hM, -⟩ := h
  have hF := hI.1
  unfold fn_X7_about
  rcases (show w = 0 ∨ w = 1 ∨ w = 2 ∨ w = 3 ∨ w = 4 ∨ w = 5 ∨ w = 6 ∨ w = 7 ∨ w = 8 ∨ w = 9 by omega) with e | e | e | e | e | e | e | e | e | e <;> subst e
  · rw [if_pos (show nI 0 = (0 : Int32) from rfl)]
    unfold fn_X4_frameNow
    rw [kbs, hC.2.1]
    rfl
  · rw [if_neg (show ¬ nI 1 = (0 : Int32) by decide), if_pos (show nI 1 = (1 : Int32) from rfl)]
    unfold fn_X4_frameNow
    rw [kbs, rollsF hI hC, kbs]
    rfl
  · rw [if_neg (show ¬ nI 2 = (0 : Int32) by decide), if_neg (show ¬ nI 2 = (1 : Int32) by decide), if_pos (show nI 2 = (2 : Int32) from rfl)]
    unfold fn_X4_rolls
    rw [kbs, hC.1]
    rfl
  · rw [if_neg (show ¬ nI 3 = (0 : Int32) by decide), if_neg (show ¬ nI 3 = (1 : Int32) by decide), if_neg (show ¬ nI 3 = (2 : Int32) by decide), if_pos (show nI 3 = (3 : Int32) from rfl), pts_c hI hC, kbs]
    rfl
  · rw [if_neg (show ¬ nI 4 = (0 : Int32) by decide), if_neg (show ¬ nI 4 = (1 : Int32) by decide), if_neg (show ¬ nI 4 = (2 : Int32) by decide), if_neg (show ¬ nI 4 = (3 : Int32) by decide), if_pos (show nI 4 = (4 : Int32) from rfl)]
    rfl
  · rw [if_neg (show ¬ nI 5 = (0 : Int32) by decide), if_neg (show ¬ nI 5 = (1 : Int32) by decide), if_neg (show ¬ nI 5 = (2 : Int32) by decide), if_neg (show ¬ nI 5 = (3 : Int32) by decide), if_neg (show ¬ nI 5 = (4 : Int32) by decide), if_pos (show nI 5 = (5 : Int32) from rfl)]
    rfl
  · rw [if_neg (show ¬ nI 6 = (0 : Int32) by decide), if_neg (show ¬ nI 6 = (1 : Int32) by decide), if_neg (show ¬ nI 6 = (2 : Int32) by decide), if_neg (show ¬ nI 6 = (3 : Int32) by decide), if_neg (show ¬ nI 6 = (4 : Int32) by decide), if_neg (show ¬ nI 6 = (5 : Int32) by decide), if_pos (show nI 6 = (6 : Int32) from rfl)]
    rfl
  · rw [if_neg (show ¬ nI 7 = (0 : Int32) by decide), if_neg (show ¬ nI 7 = (1 : Int32) by decide), if_neg (show ¬ nI 7 = (2 : Int32) by decide), if_neg (show ¬ nI 7 = (3 : Int32) by decide), if_neg (show ¬ nI 7 = (4 : Int32) by decide), if_neg (show ¬ nI 7 = (5 : Int32) by decide), if_neg (show ¬ nI 7 = (6 : Int32) by decide), if_pos (show nI 7 = (7 : Int32) from rfl)]
    unfold fn_X2_toldSet
    rw [kbs, bitCount_eq hP.1, kbs]
    rfl
  · rw [if_neg (show ¬ nI 8 = (0 : Int32) by decide), if_neg (show ¬ nI 8 = (1 : Int32) by decide), if_neg (show ¬ nI 8 = (2 : Int32) by decide), if_neg (show ¬ nI 8 = (3 : Int32) by decide), if_neg (show ¬ nI 8 = (4 : Int32) by decide), if_neg (show ¬ nI 8 = (5 : Int32) by decide), if_neg (show ¬ nI 8 = (6 : Int32) by decide), if_neg (show ¬ nI 8 = (7 : Int32) by decide), if_pos (show nI 8 = (8 : Int32) from rfl), upSet_c, kbs, bitCount_eq nless_lt, kbs]
    rfl
  · rw [if_neg (show ¬ nI 9 = (0 : Int32) by decide), if_neg (show ¬ nI 9 = (1 : Int32) by decide), if_neg (show ¬ nI 9 = (2 : Int32) by decide), if_neg (show ¬ nI 9 = (3 : Int32) by decide), if_neg (show ¬ nI 9 = (4 : Int32) by decide), if_neg (show ¬ nI 9 = (5 : Int32) by decide), if_neg (show ¬ nI 9 = (6 : Int32) by decide), if_neg (show ¬ nI 9 = (7 : Int32) by decide), if_neg (show ¬ nI 9 = (8 : Int32) by decide), if_pos (show nI 9 = (9 : Int32) from rfl)]
    have hov : fn_X4_isOver frm = some (if Fm = 10 then 1 else 0) := by rw [hC.2.1]; exact isOver_c hF
    rw [hov, kbs]
    unfold fn_X7_about_180
    by_cases c : Fm = 10
    · subst c
      rfl
    · rw [if_neg c, if_pos rfl]
      show _ = some (0, nI (if Fm = 10 then 1 else 0))
      rw [if_neg c]
      rfl
abbrev pinV (M : Nat) (le sh : kF) (k w : Nat) : Int32 := match w with
  | 0 => le k
  | 1 => sh k
  | 2 => kHB k + sh k
  | _ => nI (if M.testBit k then 1 else 0)
theorem ask_pin (h : SRel M R Fm T S sto dro fou told le sh rolls frm tk sr se r) {k w : Nat} (hk : k < 10) (hw : w < 4) : fn_X7_pin told le sh (nI k) (nI w) = some (0, pinV M le sh k w) := by
  obtain ⟨rfl, hP, hI, hC, hM, -⟩ := h
  unfold fn_X7_pin
  rw [pin_k hk, kbs, if_neg n10]
  rcases (show w = 0 ∨ w = 1 ∨ w = 2 ∨ w = 3 by omega) with e | e | e | e <;> subst e
  · rw [if_pos (show nI 0 = (0 : Int32) from rfl), leaning_c hk, kbs]
    rfl
  · rw [if_neg (show ¬ nI 1 = (0 : Int32) by decide), if_pos (show nI 1 = (1 : Int32) from rfl), shiftOf_c hk, kbs]
    rfl
  · rw [if_neg (show ¬ nI 2 = (0 : Int32) by decide), if_neg (show ¬ nI 2 = (1 : Int32) by decide), if_pos (show nI 2 = (2 : Int32) from rfl), board_c hk, kbs]
    rfl
  · rw [if_neg (show ¬ nI 3 = (0 : Int32) by decide), if_neg (show ¬ nI 3 = (1 : Int32) by decide), if_neg (show ¬ nI 3 = (2 : Int32) by decide), if_pos (show nI 3 = (3 : Int32) from rfl)]
    unfold fn_X2_toldSet
    rw [kbs, n_bit hP.1 hk]
    rfl
abbrev frmV (R Fm : Nat) (T S : Nat → Nat) (f w : Nat) : Int32 := match w with
  | 0 => nI (nin R Fm S f)
  | 1 => nI (npt R T (nst R Fm S f))
  | _ => nI (nmk R T (nst R Fm S f))
theorem frame_k {k : Nat} (hk : k < 10) : fn_X7_isFrame (nI k) = some 1 := (frame_c _).trans (congrArg some (rng_1 (n := 9) (by omega) (by omega)))
theorem ask_frame (h : SRel M R Fm T S sto dro fou told le sh rolls frm tk sr se r) {f w : Nat} (hf : f < 10) (hw : w < 3) : fn_X7_frame rolls frm tk sr (nI f) (nI w) = some (0, frmV R Fm T S f w) := by
  obtain ⟨rfl, hP, hI, hC, hM, -⟩ := h
  unfold fn_X7_frame
  rw [frame_k hf, kbs, if_neg n10]
  rcases (show w = 0 ∨ w = 1 ∨ w = 2 by omega) with e | e | e <;> subst e
  · rw [if_pos (show nI 0 = (0 : Int32) from rfl), rollsIn_c hI hC hf, kbs]
    rfl
  · rw [if_neg (show ¬ nI 1 = (0 : Int32) by decide), if_pos (show nI 1 = (1 : Int32) from rfl), pointsOf_c hI hC hf, kbs]
    rfl
  · rw [if_neg (show ¬ nI 2 = (0 : Int32) by decide), if_neg (show ¬ nI 2 = (1 : Int32) by decide), if_pos (show nI 2 = (2 : Int32) from rfl), markOf_c hI hC hf, kbs]
    rfl
theorem ask_taken (h : SRel M R Fm T S sto dro fou told le sh rolls frm tk sr se r) {i : Nat} (hi : i < 100) : fn_X7_taken rolls tk (nI i) = some (if i < R then (0, nI (T i)) else (3, 0)) := by
  obtain ⟨rfl, hP, hI, hC, hM, -⟩ := h
  have hR := R_le hI
  unfold fn_X7_taken fn_X4_rolls
  rw [if_neg (nI_pos (by omega))]
  rw [kbs, hC.1]
  by_cases c : i < R
  · rw [if_pos c]
    first
      | rw [if_pos (nI_lt c (by omega))]
      | rw [if_neg (nI_ge c (by omega))]
    have := takenBy_c hI hC hi
    rw [hC.1] at this
    rw [this, kbs]
    unfold ntk
    rw [if_pos c]
  · rw [if_neg c]
    first
      | rw [if_neg (nI_nlt (by omega) (by omega))]
      | rw [if_pos (nI_le (by omega) (by omega))]
    rfl
theorem ask_setting {i : Nat} (hi : i < 3) : fn_X7_setting se (nI i) = some (0, se i) := by
  unfold fn_X7_setting
  rw [setting_k hi, kbs, if_neg n10, settingAt_c hi, kbs]
theorem ask_drops (h : SRel M R Fm T S sto dro fou told le sh rolls frm tk sr se r) : fn_X7_drops told le se = some (nI (nmask (fun k => M.testBit k && !decide (le k ≤ se 2)) 10)) := by
  obtain ⟨rfl, hP, -⟩ := h
  unfold fn_X7_drops fn_X2_dropSet
  rw [show fn_X6_settingAt se 2 = some (se 2) from settingAt_c (i := 2) (by omega), kbs, moreThan_eq, kbs, n_and, kbs]
  congr 2
  refine mask_ext (and_lt hP.1) (nmask_lt _ 10) (fun k hk => ?_)
  rw [Nat.testBit_and, nmore_bit hk, nmask_bit]
  simp [hk]
theorem ask_slowest (hS : SE se) : ∃ a : Nat, fn_X7_slowest se = some (nI a) ∧ 1 ≤ a ∧ a ≤ 30 ∧ (90 : Int32) / nI a ≤ se 0 ∧ (a = 1 ∨ ¬ (90 : Int32) / nI (a - 1) ≤ se 0) := by
  have key : ∀ (d k q : Nat), k + d = 30 → 1 ≤ k → d < q → (k = 1 ∨ ¬ (90 : Int32) / nI (k - 1) ≤ se 0) → ∃ a : Nat, fn_X7_slowest_2 q se (nI k) = some (nI a) ∧ 1 ≤ a ∧ a ≤ 30 ∧ (90 : Int32) / nI a ≤ se 0 ∧ (a = 1 ∨ ¬ (90 : Int32) / nI (a - 1) ≤ se 0) := by
    intro d
    induction d with
    | zero =>
      intro k q hk h1 hq hp
      obtain ⟨q, rfl⟩ : ∃ z, q = z + 1 := ⟨q - 1, by omega⟩
      have hk : k = 30 := by omega
      subst hk
      refine ⟨30, ?_, by omega, by omega, hS.1, hp⟩
      show (if (30 : Int32) ≤ nI 30 then _ else _) = _
      rw [if_pos (show (30 : Int32) ≤ nI 30 from Int32.le_refl _)]
      rfl
    | succ d ih =>
      intro k q hk h1 hq hp
      obtain ⟨q, rfl⟩ : ∃ z, q = z + 1 := ⟨q - 1, by omega⟩
      have hx : ¬ nI k < 1 := nI_nlt (b := 1) h1 (by omega)
      have e1 : fn_X7_slowest_2 (q + 1) se (nI k) = (if (30 : Int32) ≤ nI k then fn_X7_slowest_25 se (nI k) else (fn_X6_stops se (nI k)).bind fun o13 => if o13 = 0 then fn_X7_slowest_25 se (nI k) else fn_X7_slowest_2 q se (nI k + 1)) := rfl
      rw [e1, if_neg (show ¬ (30 : Int32) ≤ nI k from ix_ge (n := 30) (by omega) (by omega)), stops_c hx, kbs]
      by_cases c : (90 : Int32) / nI k ≤ se 0
      · rw [if_pos c, if_pos rfl]
        exact ⟨k, rfl, h1, by omega, c, hp⟩
      · rw [if_neg c, if_neg (by decide), nI_1]
        exact ih (k + 1) q (by omega) (by omega) (by omega) (Or.inr (by rw [Nat.add_sub_cancel]; exact c))
  exact key 29 1 4096 (by omega) (by omega) (by omega) (Or.inl rfl)
/-- a ball on trial -/
theorem lean_l {le : kF} (h : ∀ k, k < 10 → lvok (le k)) : fn_X2_leaningSet le = some (nI (nmask (P6 le) 10)) := by
  unfold fn_X2_leaningSet
  rw [upSet_c, kbs, moreThan_eq, kbs, n_and]
  congr 2
  refine mask_ext (and_lt nless_lt) (nmask_lt _ 10) (fun k hk => ?_)
  rw [Nat.testBit_and, nless_bit hk, b1023 hk, nmore_bit hk, nmore_bit hk, nmask_bit]
  have h3 := lv3_iff (h k hk)
  unfold P6
  by_cases c4 : le k = 4
  · have : ¬ le k ≤ 3 := fun e => (h3.mp e) c4
    simp [c4, this]
  · have : le k ≤ 3 := h3.mpr c4
    simp [c4, this, hk]
theorem up_l {M N : Nat} {le : kF} (hM : M < 1024) (h : ∀ k, k < 10 → lvok (le k)) : (M &&& N) &&& nless 1023 (nmore le 3) = nmask (P7 M N le) 10 := by
  refine mask_ext (and_lt (and_lt hM)) (nmask_lt _ 10) (fun k hk => ?_)
  rw [Nat.testBit_and, Nat.testBit_and, nless_bit hk, b1023 hk, nmore_bit hk, nmask_bit]
  have h3 := lv3_iff (h k hk)
  unfold P7
  rw [nless_bit hk]
  by_cases c4 : le k = 4
  · have : ¬ le k ≤ 3 := fun e => (h3.mp e) c4
    simp [c4, this]
  · have : le k ≤ 3 := h3.mpr c4
    cases M.testBit k <;> simp [c4, this, hk]
theorem ask_try (h : SRel M R Fm T S sto dro fou told le sh rolls frm tk sr se r) {B D ttold twl twr : Int32} {tle tsh lb : kF} (hB : BALL le sh B D lb) :
    ∃ (wl' wr' : Int32) (le' sh' : kF), fn_X7_takesOnTrial told le sh se ttold twl twr tle tsh B D = some (nI (M &&& nmore lb (se 1)), nI (nless M (nmore lb (se 1))), wl', wr', le', sh') ∧ (∀ k, k < 10 → le' k = lb k) ∧ wl' ||| wr' = nI (nmask (P5 lb le) 10) := by
  obtain ⟨rfl, hP, hI, hC, hM, hX, hS⟩ := h
  obtain ⟨le1, sh1, e1, h1⟩ := copyPins (told := ttold) (ztold := nI M) (le := tle) (sh := tsh) (zle := le) (zsh := sh)
  obtain ⟨wl', wr', le', sh', b1, b2, b3⟩ := hB.2 twl twr le1 sh1 h1
  refine ⟨wl', wr', le', sh', ?_, b2, b3⟩
  unfold fn_X7_takesOnTrial
  rw [e1, kbs, b1, kbs, show fn_X6_settingAt se 1 = some (se 1) from settingAt_c (i := 1) (by omega), kbs, tell_c hP.1, kbs, nmore_congr b2]
abbrev wouV (M : Nat) (le lb se : kF) (w : Nat) : Int32 := match w with
  | 0 => nI (nmask (P5 lb le) 10)
  | 1 => nI (nmask (P6 lb) 10)
  | 2 => nI (npop (M &&& nmore lb (se 1)) 10)
  | _ => nI (npop (nmask (P7 M (nmore lb (se 1)) lb) 10) 10)
theorem ball_k {b : Nat} {D : Int32} (hb : b ≤ 40) (hD : -2 ≤ D ∧ D ≤ 2) : fn_X7_isBall (nI b) D = some 1 := by
  rw [ball_c, if_pos ⟨⟨nI_pos' (by omega), nI_le (b := 40) hb (by omega)⟩, hD⟩]
theorem ask_would (h : SRel M R Fm T S sto dro fou told le sh rolls frm tk sr se r) {b w : Nat} {D ttold twl twr : Int32} {tle tsh lb : kF} (hB : BALL le sh (nI b) D lb) (hb : b ≤ 40) (hD : -2 ≤ D ∧ D ≤ 2) (hw : w < 4) :
    ∃ (ttold' wl' wr' : Int32) (le' sh' : kF), fn_X7_would told le sh se ttold twl twr tle tsh (nI b) D (nI w) = some (0, wouV M le lb se w, ttold', wl', wr', le', sh') := by
  obtain ⟨wl', wr', le', sh', t1, t2, t3⟩ := ask_try (ttold := ttold) (twl := twl) (twr := twr) (tle := tle) (tsh := tsh) h hB
  have hM : M < 1024 := h.2.1.1
  have hv : ∀ k, k < 10 → lvok (le' k) := fun k hk => by rw [t2 k hk]; exact hB.1 k hk
  refine ⟨nI (nless M (nmore lb (se 1))), wl', wr', le', sh', ?_⟩
  unfold fn_X7_would
  rw [ball_k hb hD, kbs, if_neg n10, t1, kbs]
  rcases (show w = 0 ∨ w = 1 ∨ w = 2 ∨ w = 3 by omega) with e | e | e | e <;> subst e
  · rw [if_pos (show nI 0 = (0 : Int32) from rfl)]
    unfold fn_X2_fellSet
    rw [kbs, t3]
    rfl
  · rw [if_neg (show ¬ nI 1 = (0 : Int32) by decide), if_pos (show nI 1 = (1 : Int32) from rfl), lean_l hv, kbs]
    have e6 : nmask (P6 le') 10 = nmask (P6 lb) 10 := nmask_congr fun k hk => by unfold P6; rw [t2 k hk]
    rw [e6]
    rfl
  · rw [if_neg (show ¬ nI 2 = (0 : Int32) by decide), if_neg (show ¬ nI 2 = (1 : Int32) by decide), if_pos (show nI 2 = (2 : Int32) from rfl), bitCount_eq (and_lt hM), kbs]
    rfl
  · rw [if_neg (show ¬ nI 3 = (0 : Int32) by decide), if_neg (show ¬ nI 3 = (1 : Int32) by decide), if_neg (show ¬ nI 3 = (2 : Int32) by decide), if_pos (show nI 3 = (3 : Int32) from rfl), upSet_c, kbs, n_and, up_l hM hv, bitCount_eq (nmask_lt _ 10), kbs]
    have e7 : nmask (P7 M (nmore lb (se 1)) le') 10 = nmask (P7 M (nmore lb (se 1)) lb) 10 := nmask_congr fun k hk => by unfold P7; rw [t2 k hk]
    rw [e7]
    rfl
theorem ask_best (h : SRel M R Fm T S sto dro fou told le sh rolls frm tk sr se r) {D ttold twl twr : Int32} {tle tsh : kF} (hD : -2 ≤ D ∧ D ≤ 2) (lbs : Nat → kF) (hB : ∀ b, BALL le sh (nI b) D (lbs b)) :
    ∃ (b : Nat) (ttold' wl' wr' : Int32) (le' sh' : kF), fn_X7_bestBoard told le sh se ttold twl twr tle tsh D = some (0, nI b, ttold', wl', wr', le', sh') ∧ b ≤ 40 ∧ ∀ j, j ≤ 40 → npop (M &&& nmore (lbs j) (se 1)) 10 ≤ npop (M &&& nmore (lbs b) (se 1)) 10 ∧ (j < b → npop (M &&& nmore (lbs j) (se 1)) 10 < npop (M &&& nmore (lbs b) (se 1)) 10) := by
  have hM : M < 1024 := h.2.1.1
  have key : ∀ (d k q b : Nat) (ttold twl twr : Int32) (tle tsh : kF), k + d = 41 → d < q → b < k → (∀ j, j < k → npop (M &&& nmore (lbs j) (se 1)) 10 ≤ npop (M &&& nmore (lbs b) (se 1)) 10 ∧ (j < b → npop (M &&& nmore (lbs j) (se 1)) 10 < npop (M &&& nmore (lbs b) (se 1)) 10)) →
      ∃ (b' : Nat) (ttold' wl' wr' : Int32) (le' sh' : kF), fn_X7_bestBoard_25 q told le sh se ttold twl twr tle tsh D (nI b) (nI (npop (M &&& nmore (lbs b) (se 1)) 10)) (nI k) = some (0, nI b', ttold', wl', wr', le', sh') ∧ b' ≤ 40 ∧ ∀ j, j ≤ 40 → npop (M &&& nmore (lbs j) (se 1)) 10 ≤ npop (M &&& nmore (lbs b') (se 1)) 10 ∧ (j < b' → npop (M &&& nmore (lbs j) (se 1)) 10 < npop (M &&& nmore (lbs b') (se 1)) 10) := by
    intro d
    induction d with
    | zero =>
      intro k q b ttold twl twr tle tsh hk hq hb hi
      obtain ⟨q, rfl⟩ : ∃ z, q = z + 1 := ⟨q - 1, by omega⟩
      have hk : k = 41 := by omega
      subst hk
      exact ⟨b, _, _, _, _, _, rfl, by omega, fun j hj => hi j (by omega)⟩
    | succ d ih =>
      intro k q b ttold twl twr tle tsh hk hq hb hi
      obtain ⟨q, rfl⟩ : ∃ z, q = z + 1 := ⟨q - 1, by omega⟩
      obtain ⟨wl', wr', le', sh', t1, -, -⟩ := ask_try (ttold := ttold) (twl := twl) (twr := twr) (tle := tle) (tsh := tsh) h (hB k)
      have n40 : ¬ (40 : Int32) < nI k := nI_nlt (a := 40) (by omega) (by omega)
      have p1 := npop_le (M &&& nmore (lbs k) (se 1)) 10
      have p2 := npop_le (M &&& nmore (lbs b) (se 1)) 10
      have e1 : ∀ x y, fn_X7_bestBoard_56 (fn_X7_bestBoard_25 q) told le sh se (nI (nless M (nmore (lbs k) (se 1)))) wl' wr' le' sh' D x y (nI k) = fn_X7_bestBoard_25 q told le sh se (nI (nless M (nmore (lbs k) (se 1)))) wl' wr' le' sh' D x y (nI (k + 1)) := fun x y => by unfold fn_X7_bestBoard_56; rw [nI_1]
      have f1 : fn_X7_bestBoard_25 (q + 1) told le sh se ttold twl twr tle tsh D (nI b) (nI (npop (M &&& nmore (lbs b) (se 1)) 10)) (nI k) = if nI (npop (M &&& nmore (lbs k) (se 1)) 10) ≤ nI (npop (M &&& nmore (lbs b) (se 1)) 10) then fn_X7_bestBoard_56 (fn_X7_bestBoard_25 q) told le sh se (nI (nless M (nmore (lbs k) (se 1)))) wl' wr' le' sh' D (nI b) (nI (npop (M &&& nmore (lbs b) (se 1)) 10)) (nI k) else fn_X7_bestBoard_56 (fn_X7_bestBoard_25 q) told le sh se (nI (nless M (nmore (lbs k) (se 1)))) wl' wr' le' sh' D (nI k) (nI (npop (M &&& nmore (lbs k) (se 1)) 10)) (nI k) := by
        show (if _ then _ else _) = _
        rw [if_neg n40, t1, kbs, bitCount_eq (and_lt hM), kbs]
      rw [f1, e1, e1]
      by_cases c : npop (M &&& nmore (lbs k) (se 1)) 10 ≤ npop (M &&& nmore (lbs b) (se 1)) 10
      · rw [if_pos (nI_le c (by omega))]
        refine ih (k + 1) q b _ _ _ _ _ (by omega) (by omega) (by omega) (fun j hj => ?_)
        by_cases e : j = k
        · subst e
          exact ⟨c, fun z => by omega⟩
        · exact hi j (by omega)
      · rw [if_neg (nI_ge (by omega) (by omega))]
        refine ih (k + 1) q k _ _ _ _ _ (by omega) (by omega) (by omega) (fun j hj => ?_)
        by_cases e : j = k
        · subst e
          exact ⟨Nat.le_refl _, fun z => by omega⟩
        · have := (hi j (by omega)).1
          exact ⟨by omega, fun _ => by omega⟩
  obtain ⟨wl', wr', le', sh', t1, -, -⟩ := ask_try (ttold := ttold) (twl := twl) (twr := twr) (tle := tle) (tsh := tsh) h (hB 0)
  obtain ⟨b, ttold2, wl2, wr2, le2, sh2, g1, g2⟩ := key 40 1 4095 0 (nI (nless M (nmore (lbs 0) (se 1)))) wl' wr' le' sh' (by omega) (by omega) (by omega) (fun j hj => by
    have : j = 0 := by omega
    subst this
    exact ⟨Nat.le_refl _, fun z => by omega⟩)
  refine ⟨b, ttold2, wl2, wr2, le2, sh2, ?_, g2⟩
  unfold fn_X7_bestBoard
  rw [ball_c, kbs, if_pos (⟨by decide, hD⟩ : ((0 : Int32) ≤ 0 ∧ (0 : Int32) ≤ 40) ∧ -2 ≤ D ∧ D ≤ 2), if_neg (by decide), ← g1]
  show (if (40 : Int32) < 0 then _ else (fn_X7_takesOnTrial told le sh se ttold twl twr tle tsh (nI 0) D).bind _) = _
  have hlt := npop_le (M &&& nmore (lbs 0) (se 1)) 10
  rw [if_neg (by decide), t1, kbs, bitCount_eq (and_lt hM), kbs, if_neg (show ¬ nI (npop (M &&& nmore (lbs 0) (se 1)) 10) ≤ -1 from fun e => Int32.not_le.mpr (show (-1 : Int32) < 0 by decide) (Int32.le_trans (nI_pos' (by omega)) e))]
  unfold fn_X7_bestBoard_56
  rfl
/-- a game that goes on -/
theorem goes_pts {nsto ndro nfou ntold nrolls nfrm x1 x2 : Int32} {nle nsh ntk nsr nse : kF} : ∀ (d k q : Nat) (M R Fm : Nat) (T S : Nat → Nat) (sto dro fou told rolls frm wl wr : Int32) (le sh tk sr se r : kF), k + d = 21 → d < q → k ≤ R → SRel M R Fm T S sto dro fou told le sh rolls frm tk sr se r →
    ∃ (a : Nat) (sto' dro' fou' told' wl' wr' rolls' frm' : Int32) (le' sh' tk' sr' se' : kF), fn_X7_goesOn_31 q nsto ndro nfou ntold nle nsh nrolls nfrm ntk nsr nse sto dro fou told wl wr le sh rolls frm tk sr se x1 x2 (nI k) = some (0, nI a, sto', dro', fou', told', wl', wr', le', sh', rolls', frm', tk', sr', se') ∧ npts R Fm T S 10 ≤ a ∧ a ≤ 300 ∧ (Fm = 10 → a = npts R Fm T S 10) := by
  intro d
  have base : ∀ (k q : Nat) (M R Fm : Nat) (T S : Nat → Nat) (sto dro fou told rolls frm wl wr : Int32) (le sh tk sr se r : kF), k ≤ 21 → Fm = 10 → SRel M R Fm T S sto dro fou told le sh rolls frm tk sr se r →
      ∃ (a : Nat) (sto' dro' fou' told' wl' wr' rolls' frm' : Int32) (le' sh' tk' sr' se' : kF), fn_X7_goesOn_31 (q + 1) nsto ndro nfou ntold nle nsh nrolls nfrm ntk nsr nse sto dro fou told wl wr le sh rolls frm tk sr se x1 x2 (nI k) = some (0, nI a, sto', dro', fou', told', wl', wr', le', sh', rolls', frm', tk', sr', se') ∧ npts R Fm T S 10 ≤ a ∧ a ≤ 300 ∧ (Fm = 10 → a = npts R Fm T S 10) := by
    intro k q M R Fm T S sto dro fou told rolls frm wl wr le sh tk sr se r hk hF h
    obtain ⟨rfl, hP, hI, hC, hM, hX, hS⟩ := h
    subst hF
    have p1 := pts_c hI hC
    refine ⟨npts R 10 T S 10, sto, dro, fou, nI M, wl, wr, rolls, frm, le, sh, tk, sr, se, ?_, Nat.le_refl _, npts_le hI 10, fun _ => rfl⟩
    have e69 : fn_X7_goesOn_69 nsto ndro nfou ntold nle nsh nrolls nfrm ntk nsr nse sto dro fou (nI M) wl wr le sh rolls frm tk sr se = some (0, nI (npts R 10 T S 10), sto, dro, fou, nI M, wl, wr, le, sh, rolls, frm, tk, sr, se) := by
      unfold fn_X7_goesOn_69
      rw [p1, kbs]
    show (if (21 : Int32) ≤ nI k then _ else (fn_X4_isOver frm).bind _) = _
    rw [show fn_X4_isOver frm = some 1 by rw [hC.2.1]; rfl, kbs, if_neg (show ¬ (1 : Int32) = 0 by decide), e69]
    split <;> rfl
  induction d with
  | zero =>
    intro k q M R Fm T S sto dro fou told rolls frm wl wr le sh tk sr se r hk hq hR h
    obtain ⟨q, rfl⟩ : ∃ z, q = z + 1 := ⟨q - 1, by omega⟩
    refine base k q M R Fm T S sto dro fou told rolls frm wl wr le sh tk sr se r (by omega) ?_ h
    have hI := h.2.2.1
    have := hI.1
    rcases Nat.lt_or_ge Fm 10 with z | z
    · have := R_le20 hI z; omega
    · omega
  | succ d ih =>
    intro k q M R Fm T S sto dro fou told rolls frm wl wr le sh tk sr se r hk hq hR h
    obtain ⟨q, rfl⟩ : ∃ z, q = z + 1 := ⟨q - 1, by omega⟩
    have hI := h.2.2.1
    have hF10 := hI.1
    rcases Nat.lt_or_ge Fm 10 with z | z
    · obtain ⟨lb, hB⟩ := ball_ex h.2.1.2.1 x1 x2
      obtain ⟨t, M1, wl1, wr1, dro1, fou1, le1, sh1, tk1, sr1, side1, was1, r1, -, k1, -, k3, -⟩ := sim_roll2 (x4 := 0) (wl := wl) (wr := wr) (side := r) (was := r) h z hB
      obtain ⟨a, sto', dro', fou', told', wl', wr', rolls', frm', le', sh', tk', sr', se', g1, g2, g3, g4⟩ := ih (k + 1) q M1 (R + 1) (nF R Fm t T S) (tup T R t) (nS R Fm t T S) sto dro1 fou1 (nI M1) (nI (R + 1)) (nI (nF R Fm t T S)) wl1 wr1 le1 sh1 tk1 sr1 se r1 (by omega) (by omega) (by omega) k3
      have hp := pts_add hI z (t := t)
      refine ⟨a, sto', dro', fou', told', wl', wr', rolls', frm', le', sh', tk', sr', se', ?_, by omega, g3, fun e => by omega⟩
      rw [← g1]
      have hb := bowl_eq (sto := sto) (dro := dro) (fou := fou) (told := told) (rolls := rolls) (frm := frm) (x1 := x1) (x2 := x2) (x3 := 30) (x4 := 0) (wl := wl) (wr := wr) (le := le) (sh := sh) (tk := tk) (sr := sr) (se := se) (by decide)
      rw [if_pos (show (90 : Int32) / 30 ≤ se 0 from h.2.2.2.2.2.2.1), k1] at hb
      have ho : fn_X4_isOver frm = some 0 := by rw [h.2.2.2.1.2.1, isOver_c hF10, if_neg (by omega)]
      show (if (21 : Int32) ≤ nI k then _ else (fn_X4_isOver frm).bind _) = _
      rw [if_neg (show ¬ (21 : Int32) ≤ nI k from ix_ge (n := 21) (by omega) (by omega)), ho, kbs, if_pos rfl, hb, kbs, nI_1]
    · exact base k q M R Fm T S sto dro fou told rolls frm wl wr le sh tk sr se r (by omega) (by omega) h
/-- a copy of a state stands for the same -/
theorem copy_ag {sto dro fou told rolls frm zsto zdro zfou ztold zrolls zfrm : Int32} {le sh tk sr se zle zsh ztk zsr zse : kF} : ∃ le' sh' tk' sr' se', fn_X6_copyFrom sto dro fou told le sh rolls frm tk sr se zsto zdro zfou ztold zle zsh zrolls zfrm ztk zsr zse = some (zsto, zdro, zfou, ztold, le', sh', zrolls, zfrm, tk', sr', se') ∧ (∀ i, i < 10 → le' i = zle i ∧ sh' i = zsh i) ∧ (∀ i, i < 21 → tk' i = ztk i) ∧ (∀ i, i < 11 → sr' i = zsr i) ∧ ∀ i, i < 3 → se' i = zse i := by
  obtain ⟨le', sh', e1, h1⟩ := copyPins (told := told) (ztold := ztold) (le := le) (sh := sh) (zle := zle) (zsh := zsh)
  obtain ⟨tk', sr', e2, h2, h3⟩ := copyTk_loop (rolls := rolls) (frm := frm) (zrolls := zrolls) (zfrm := zfrm) (sr := sr) (ztk := ztk) (zsr := zsr) 21 0 4096 tk (by omega) (by omega) (fun j hj => absurd hj (Nat.not_lt_zero j))
  obtain ⟨se', e3, h4⟩ := copySe_loop (sto := sto) (dro := dro) (fou := fou) (told := ztold) (rolls := zrolls) (frm := zfrm) (zsto := zsto) (zdro := zdro) (zfou := zfou) (ztold := ztold) (zrolls := zrolls) (zfrm := zfrm) (le := le') (sh := sh') (tk := tk') (sr := sr') (zle := zle) (zsh := zsh) (ztk := ztk) (zsr := zsr) (zse := zse) 3 0 4096 se (by omega) (by omega) (fun j hj => absurd hj (Nat.not_lt_zero j))
  refine ⟨le', sh', tk', sr', se', ?_, h1, h2, h3, h4⟩
  unfold fn_X6_copyFrom
  rw [e1, kbs, show fn_X4_copyFrom rolls frm tk sr zrolls zfrm ztk zsr = _ from e2, kbs]
  exact e3
theorem SRel.cls {le' sh' tk' sr' se' : kF} (h : SRel M R Fm T S sto dro fou told le sh rolls frm tk sr se r) (h1 : ∀ i, i < 10 → le' i = le i ∧ sh' i = sh i) (h2 : ∀ i, i < 21 → tk' i = tk i) (h3 : ∀ i, i < 11 → sr' i = sr i) (h4 : ∀ i, i < 3 → se' i = se i) : SRel M R Fm T S sto dro fou told le' sh' rolls frm tk' sr' se' r := by
  obtain ⟨e1, hP, hI, hC, hM, ⟨a1, a2, a3, a4, a5, a6⟩, hS⟩ := h
  have hR := R_le hI
  have hF := hI.1
  refine ⟨e1, ⟨hP.1, fun k hk => ?_, hP.2.2.1, fun k hk hb => ?_⟩, hI, ⟨hC.1, hC.2.1, fun i hi => ?_, fun f hf => ?_⟩, hM, ⟨a1, a2, a3, ?_, ?_, ?_⟩, ?_, ?_⟩
  · rw [(h1 k hk).1, (h1 k hk).2]; exact hP.2.1 k hk
  · rw [(h1 k hk).1]; exact hP.2.2.2 k hk hb
  · rw [h2 i (by omega)]; exact hC.2.2.1 i hi
  · rw [h3 f (by omega)]; exact hC.2.2.2 f hf
  · rw [h4 0 (by omega)]; exact a4
  · rw [h4 1 (by omega)]; exact a5
  · rw [h4 2 (by omega)]; exact a6
  · rw [h4 0 (by omega)]; exact hS.1
  · rw [h4 1 (by omega)]; exact hS.2
theorem SRel.row {r' : kF} (h : SRel M R Fm T S sto dro fou told le sh rolls frm tk sr se r) (hk : ∀ i, i < 79 → r' i = r i) : SRel M R Fm T S sto dro fou told le sh rolls frm tk sr se r' := by
  obtain ⟨h1, hP, hI, hC, hM, ⟨a1, a2, a3, a4, a5, a6⟩, hS⟩ := h
  exact ⟨h1, hP.keep (fun i hi => hk i (by omega)), hI, hC, hM.keep (R_le hI) (fun i _ hi => hk i (by omega)), ⟨(hk 73 (by omega)).trans a1, (hk 74 (by omega)).trans a2, (hk 75 (by omega)).trans a3, (hk 76 (by omega)).trans a4, (hk 77 (by omega)).trans a5, (hk 78 (by omega)).trans a6⟩, hS⟩
theorem copy_c2 {sto dro fou told rolls frm zsto zdro zfou ztold zrolls zfrm : Int32} {le sh tk sr se zle zsh ztk zsr zse r : kF} (h : SRel M R Fm T S zsto zdro zfou ztold zle zsh zrolls zfrm ztk zsr zse r) : ∃ le' sh' tk' sr' se', fn_X6_copyFrom sto dro fou told le sh rolls frm tk sr se zsto zdro zfou ztold zle zsh zrolls zfrm ztk zsr zse = some (zsto, zdro, zfou, ztold, le', sh', zrolls, zfrm, tk', sr', se') ∧ SRel M R Fm T S zsto zdro zfou ztold le' sh' zrolls zfrm tk' sr' se' r := by
  obtain ⟨le', sh', tk', sr', se', e1, h1, h2, h3, h4⟩ := copy_ag (sto := sto) (dro := dro) (fou := fou) (told := told) (rolls := rolls) (frm := frm) (le := le) (sh := sh) (tk := tk) (sr := sr) (se := se) (zsto := zsto) (zdro := zdro) (zfou := zfou) (ztold := ztold) (zrolls := zrolls) (zfrm := zfrm) (zle := zle) (zsh := zsh) (ztk := ztk) (zsr := zsr) (zse := zse)
  exact ⟨le', sh', tk', sr', se', e1, h.cls h1 h2 h3 h4⟩
theorem ask_goes (h : SRel M R Fm T S sto dro fou told le sh rolls frm tk sr se r) {b : Nat} {D tsto tdro tfou ttold twl twr trolls tfrm : Int32} {tle tsh ttk tsr tse : kF} (hb : b ≤ 40) (hD : -2 ≤ D ∧ D ≤ 2) :
    ∃ (a : Nat) (sto' dro' fou' told' wl' wr' rolls' frm' : Int32) (le' sh' tk' sr' se' : kF), fn_X7_goesOn sto dro fou told le sh rolls frm tk sr se tsto tdro tfou ttold twl twr tle tsh trolls tfrm ttk tsr tse (nI b) D = some (0, nI a, sto', dro', fou', told', wl', wr', le', sh', rolls', frm', tk', sr', se') ∧ npts R Fm T S 10 ≤ a ∧ a ≤ 300 ∧ (Fm = 10 → a = npts R Fm T S 10) := by
  obtain ⟨le1, sh1, tk1, sr1, se1, e1, h1⟩ := copy_c2 (sto := tsto) (dro := tdro) (fou := tfou) (told := ttold) (rolls := trolls) (frm := tfrm) (le := tle) (sh := tsh) (tk := ttk) (sr := tsr) (se := tse) h
  obtain ⟨a, sto', dro', fou', told', wl', wr', rolls', frm', le', sh', tk', sr', se', g1, g2⟩ := goes_pts (nsto := sto) (ndro := dro) (nfou := fou) (ntold := told) (nrolls := rolls) (nfrm := frm) (nle := le) (nsh := sh) (ntk := tk) (nsr := sr) (nse := se) (x1 := nI b) (x2 := D) 21 0 4096 M R Fm T S sto dro fou told rolls frm twl twr le1 sh1 tk1 sr1 se1 r (by omega) (by omega) (by omega) h1
  refine ⟨a, sto', dro', fou', told', wl', wr', rolls', frm', le', sh', tk', sr', se', ?_, g2⟩
  unfold fn_X7_goesOn
  rw [ball_k hb hD, kbs, if_neg (by decide), e1, kbs]
  exact g1
end AK
