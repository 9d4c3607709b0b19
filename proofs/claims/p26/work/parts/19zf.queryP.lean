/-! what is asked: class and reference -/
theorem nl1 : ¬ (1 : Int32) ≤ 0 := by decide
theorem nl2 : ¬ (2 : Int32) ≤ 0 := by decide
theorem n10 : ¬ (1 : Int32) = 0 := by decide
section QU
variable {sto dro fou told rolls frm ref x1 x2 : Int32} {le sh tk sr se r : kF}
theorem sim_setting (h : SREL sto dro fou told le sh rolls frm tk sr se r) : ∃ a, (fn_X7_setting se x1 = some (0, a) ∧ fn_X8_setting ref r x1 = some (a, 0)) ∨ (fn_X7_setting se x1 = some (1, 0) ∧ fn_X8_setting ref r x1 = some (0, 1)) := by
  unfold fn_X7_setting fn_X8_setting
  rw [setting_c, kbs, in_0_2, kbs]
  by_cases c : 0 ≤ x1 ∧ x1 ≤ 2
  · obtain ⟨i, hi, rfl⟩ := nat_of (n := 2) (by omega) c
    refine ⟨se i, Or.inl ⟨?_, ?_⟩⟩
    · rw [if_pos c, if_neg n10, settingAt_c (by omega), kbs]
    · rw [if_pos c, if_neg n10]
      unfold fn_X8_setting_18
      rw [refused_m, kbs, if_pos (Int32.le_refl _), if_pos rfl, show (76 : Int32) = nI 76 from rfl, ix_add, if_neg (nI_in (N := 79) (by omega) (by omega)), nI_clamp (by omega), h.se (by omega)]
  · refine ⟨0, Or.inr ⟨?_, ?_⟩⟩
    · rw [if_neg c, if_pos rfl]
    · rw [if_neg c, if_pos rfl]
      unfold fn_X8_setting_18
      rw [refused_m, kbs, if_neg nl1, if_neg n10]
theorem sim_taken (h : SREL sto dro fou told le sh rolls frm tk sr se r) : ∃ a, (fn_X7_taken rolls tk x1 = some (0, a) ∧ fn_X8_taken ref r x1 = some (a, 0)) ∨ (fn_X7_taken rolls tk x1 = some (3, 0) ∧ fn_X8_taken ref r x1 = some (0, 1)) := by
  obtain ⟨M, R, Fm, T, S, -, hP, hI, hC, hM, -⟩ := h
  have hR := R_le hI
  unfold fn_X7_taken fn_X8_taken fn_X4_rolls
  rw [hM.1, show fn_X8_in x1.toInt64 0 (nI R - (1 : Int32)).toInt64 = some (if 0 ≤ x1 ∧ x1 ≤ nI R - 1 then 1 else 0) from in_m (lo := 0), kbs, kbs]
  by_cases c0 : x1 < 0
  · refine ⟨0, Or.inr ⟨?_, ?_⟩⟩
    · rw [if_pos c0]; rfl
    · rw [if_neg (show ¬ (0 ≤ x1 ∧ x1 ≤ nI R - 1) from fun z => Int32.not_le.mpr c0 z.1), if_pos rfl]
      unfold fn_X8_taken_25
      rw [refused_m, kbs, if_neg nl1, if_neg n10]
  · obtain ⟨j, hj, rfl⟩ := nI_of c0
    rw [if_neg c0]
    have hle : (0 ≤ nI j ∧ nI j ≤ nI R - 1) ↔ j < R := by
      rcases Nat.eq_zero_or_pos R with z | z
      · subst z
        constructor
        · intro h2
          exact absurd (Int32.le_trans h2.1 h2.2) (by decide)
        · intro h2; omega
      · rw [show nI R - (1 : Int32) = nI (R - 1) from pk_sub (b := 1) (by omega), nI_leI hj (by omega)]
        exact ⟨fun h2 => by omega, fun h2 => ⟨nI_pos' hj, by omega⟩⟩
    by_cases c : j < R
    · refine ⟨nI (T j), Or.inl ⟨?_, ?_⟩⟩
      · rw [if_pos (by rw [hC.1]; exact nI_lt c (by omega)), takenBy_c hI hC (by omega), kbs]
        unfold ntk
        rw [if_pos c]
      · rw [if_pos (hle.mpr c), if_neg n10]
        unfold fn_X8_taken_25
        rw [refused_m, kbs, if_pos (Int32.le_refl _), if_pos rfl, show (30 : Int32) = nI 30 from rfl, ix_add, if_neg (nI_in (N := 79) (by omega) (by omega)), nI_clamp (by omega), hM.2.2.1 j c]
    · refine ⟨0, Or.inr ⟨?_, ?_⟩⟩
      · rw [if_neg (by rw [hC.1]; exact nI_nlt (by omega) hj)]; rfl
      · rw [if_neg (fun z => c (hle.mp z)), if_pos rfl]
        unfold fn_X8_taken_25
        rw [refused_m, kbs, if_neg nl1, if_neg n10]
theorem sim_frame (h : SREL sto dro fou told le sh rolls frm tk sr se r) : ∃ a, (fn_X7_frame rolls frm tk sr x1 x2 = some (0, a) ∧ fn_X8_frame ref r x1 x2 = some (a, 0)) ∨ (fn_X7_frame rolls frm tk sr x1 x2 = some (3, 0) ∧ fn_X8_frame ref r x1 x2 = some (0, 1)) ∨ (fn_X7_frame rolls frm tk sr x1 x2 = some (1, 0) ∧ fn_X8_frame ref r x1 x2 = some (0, 2)) := by
  obtain ⟨M, R, Fm, T, S, -, hP, hI, hC, hM, -⟩ := h
  unfold fn_X7_frame fn_X8_frame
  rw [frame_c, kbs, in_0_9, kbs]
  by_cases c : 0 ≤ x1 ∧ x1 ≤ 9
  · obtain ⟨f, hf, rfl⟩ := nat_of (n := 9) (by omega) c
    rw [if_pos c, if_neg n10, if_neg n10, in_0_2, kbs]
    by_cases c2 : 0 ≤ x2 ∧ x2 ≤ 2
    · rw [if_pos c2, if_neg n10]
      unfold fn_X8_frame_34
      rw [refused_m, kbs, if_pos (Int32.le_refl _), if_pos rfl]
      obtain ⟨j, hj, rfl⟩ := nat_of (n := 2) (by omega) c2
      rcases (show j = 0 ∨ j = 1 ∨ j = 2 by omega) with e | e | e <;> subst e
      · refine ⟨nI (nin R Fm S f), Or.inl ⟨?_, ?_⟩⟩
        · rw [if_pos (show nI 0 = (0 : Int32) from rfl), rollsIn_c hI hC (by omega), kbs]
        · rw [if_pos (show nI 0 = (0 : Int32) from rfl), show (63 : Int32) = nI 63 from rfl, ix_add, if_neg (nI_in (N := 79) (by omega) (by omega)), nI_clamp (by omega), hM.2.2.2.2 f (by omega)]
          rfl
      · refine ⟨nI (npt R T (nst R Fm S f)), Or.inl ⟨?_, ?_⟩⟩
        · rw [if_neg (show ¬ nI 1 = (0 : Int32) by decide), if_pos (show nI 1 = (1 : Int32) from rfl), pointsOf_c hI hC (by omega), kbs]
        · rw [if_neg (show ¬ nI 1 = (0 : Int32) by decide), if_pos (show nI 1 = (1 : Int32) from rfl), pointsOf_m hI hM (by omega), kbs]
          rfl
      · refine ⟨nI (nmk R T (nst R Fm S f)), Or.inl ⟨?_, ?_⟩⟩
        · rw [if_neg (show ¬ nI 2 = (0 : Int32) by decide), if_neg (show ¬ nI 2 = (1 : Int32) by decide), if_pos (show nI 2 = (2 : Int32) from rfl), markOf_c hI hC (by omega), kbs]
        · rw [if_neg (show ¬ nI 2 = (0 : Int32) by decide), if_neg (show ¬ nI 2 = (1 : Int32) by decide), markOf_m hI hM (by omega), kbs]
          rfl
    · have m0 : ¬ x2 = 0 := fun e => c2 (by rw [e]; decide)
      have m1 : ¬ x2 = 1 := fun e => c2 (by rw [e]; decide)
      have m2 : ¬ x2 = 2 := fun e => c2 (by rw [e]; decide)
      refine ⟨0, Or.inr (Or.inr ⟨?_, ?_⟩)⟩
      · rw [if_neg m0, if_neg m1, if_neg m2]
      · rw [if_neg c2, if_pos rfl]
        unfold fn_X8_frame_34
        rw [refused_m, kbs, if_neg nl2, if_neg n10]
  · refine ⟨0, Or.inr (Or.inl ⟨?_, ?_⟩)⟩
    · rw [if_neg c, if_pos rfl]
    · rw [if_neg c, if_pos rfl]
      unfold fn_X8_frame_34
      rw [refused_m, kbs, if_neg nl1, if_neg n10]
theorem sim_pin (h : SREL sto dro fou told le sh rolls frm tk sr se r) : ∃ a, (fn_X7_pin told le sh x1 x2 = some (0, a) ∧ fn_X8_pin ref r x1 x2 = some (a, 0)) ∨ (fn_X7_pin told le sh x1 x2 = some (3, 0) ∧ fn_X8_pin ref r x1 x2 = some (0, 1)) ∨ (fn_X7_pin told le sh x1 x2 = some (1, 0) ∧ fn_X8_pin ref r x1 x2 = some (0, 2)) := by
  have hlv := fun k hk => h.lv (k := k) hk
  obtain ⟨M, R, Fm, T, S, rfl, hP, hI, hC, hM, -⟩ := h
  unfold fn_X7_pin fn_X8_pin
  rw [pin_c, kbs, pin_m, kbs]
  by_cases c : 0 ≤ x1 ∧ x1 ≤ 9
  · obtain ⟨k, hk, rfl⟩ := nat_of (n := 9) (by omega) c
    have hk10 : k < 10 := by omega
    obtain ⟨l1, l2, l3, l4⟩ := hlv k hk10
    rw [if_pos c, if_neg n10, if_neg n10, in_0_3, kbs]
    by_cases c2 : 0 ≤ x2 ∧ x2 ≤ 3
    · rw [if_pos c2, if_neg n10]
      unfold fn_X8_pin_29
      rw [refused_m, kbs, if_pos (Int32.le_refl _), if_pos rfl]
      obtain ⟨j, hj, rfl⟩ := nat_of (n := 3) (by omega) c2
      rcases (show j = 0 ∨ j = 1 ∨ j = 2 ∨ j = 3 by omega) with e | e | e | e <;> subst e
      · refine ⟨le k, Or.inl ⟨?_, ?_⟩⟩
        · rw [if_pos (show nI 0 = (0 : Int32) from rfl), leaning_c hk10, kbs]
        · rw [if_pos (show nI 0 = (0 : Int32) from rfl), ix_add0, if_neg (nI_in (N := 79) (by omega) (by omega)), nI_clamp (by omega), l1]
          rfl
      · refine ⟨sh k, Or.inl ⟨?_, ?_⟩⟩
        · rw [if_neg (show ¬ nI 1 = (0 : Int32) by decide), if_pos (show nI 1 = (1 : Int32) from rfl), shiftOf_c hk10, kbs]
        · rw [if_neg (show ¬ nI 1 = (0 : Int32) by decide), if_pos (show nI 1 = (1 : Int32) from rfl), show (10 : Int32) = nI 10 from rfl, ix_add, if_neg (nI_in (N := 79) (by omega) (by omega)), nI_clamp (by omega), l2]
          rfl
      · refine ⟨kHB k + sh k, Or.inl ⟨?_, ?_⟩⟩
        · rw [if_neg (show ¬ nI 2 = (0 : Int32) by decide), if_neg (show ¬ nI 2 = (1 : Int32) by decide), if_pos (show nI 2 = (2 : Int32) from rfl), board_c hk10, kbs]
        · rw [if_neg (show ¬ nI 2 = (0 : Int32) by decide), if_neg (show ¬ nI 2 = (1 : Int32) by decide), if_pos (show nI 2 = (2 : Int32) from rfl), board_m hk10, kbs, l2]
          rfl
      · refine ⟨nI (if M.testBit k then 1 else 0), Or.inl ⟨?_, ?_⟩⟩
        · rw [if_neg (show ¬ nI 3 = (0 : Int32) by decide), if_neg (show ¬ nI 3 = (1 : Int32) by decide), if_neg (show ¬ nI 3 = (2 : Int32) by decide), if_pos (show nI 3 = (3 : Int32) from rfl)]
          unfold fn_X2_toldSet
          rw [kbs, n_bit hP.1 hk10]
        · rw [if_neg (show ¬ nI 3 = (0 : Int32) by decide), if_neg (show ¬ nI 3 = (1 : Int32) by decide), if_neg (show ¬ nI 3 = (2 : Int32) by decide), show (20 : Int32) = nI 20 from rfl, ix_add, if_neg (nI_in (N := 79) (by omega) (by omega)), nI_clamp (by omega), hP.2.2.1 k hk10]
          rfl
    · have m0 : ¬ x2 = 0 := fun e => c2 (by rw [e]; decide)
      have m1 : ¬ x2 = 1 := fun e => c2 (by rw [e]; decide)
      have m2 : ¬ x2 = 2 := fun e => c2 (by rw [e]; decide)
      have m3 : ¬ x2 = 3 := fun e => c2 (by rw [e]; decide)
      refine ⟨0, Or.inr (Or.inr ⟨?_, ?_⟩)⟩
      · rw [if_neg m0, if_neg m1, if_neg m2, if_neg m3]
      · rw [if_neg c2, if_pos rfl]
        unfold fn_X8_pin_29
        rw [refused_m, kbs, if_neg nl2, if_neg n10]
  · refine ⟨0, Or.inr (Or.inl ⟨?_, ?_⟩)⟩
    · rw [if_neg c, if_pos rfl]
    · rw [if_neg c, if_pos rfl]
      unfold fn_X8_pin_29
      rw [refused_m, kbs, if_neg nl1, if_neg n10]
theorem standing_loop {P : Nat} (hl : ∀ k, k < 10 → r k = le k ∧ (P.testBit k = !decide (le k = 4))) : ∀ (d k q : Nat), k + d = 10 → d < q → fn_X8_standing_4 q r (nI (npop P k)) (nI k) = some (nI (npop P 10)) := by
  intro d
  induction d with
  | zero =>
    intro k q hk hq
    obtain ⟨q, rfl⟩ : ∃ z, q = z + 1 := ⟨q - 1, by omega⟩
    have hk : k = 10 := by omega
    subst hk
    rfl
  | succ d ih =>
    intro k q hk hq
    obtain ⟨q, rfl⟩ : ∃ z, q = z + 1 := ⟨q - 1, by omega⟩
    obtain ⟨l1, l2⟩ := hl k (by omega)
    rw [← ih (k + 1) q (by omega) (by omega)]
    show (if _ then _ else _) = _
    rw [if_neg (show ¬ (10 : Int32) ≤ nI k from ix_ge (n := 10) (by omega) (by omega)), ix_add0, if_neg (nI_in (N := 79) (by omega) (by omega)), nI_clamp (by omega), l1]
    unfold fn_X8_standing_25
    rw [show nI k + 1 = nI (k + 1) from nI_1 k]
    by_cases c : le k = 4
    · rw [if_pos c, pop_0 (by rw [l2]; simp [c])]
    · rw [if_neg c, pop_1 (by rw [l2]; simp [c])]
theorem sim_about (h : SREL sto dro fou told le sh rolls frm tk sr se r) : ∃ a, (fn_X7_about sto dro fou told le rolls frm tk sr x1 = some (0, a) ∧ fn_X8_about ref r x1 = some (a, 0)) ∨ (fn_X7_about sto dro fou told le rolls frm tk sr x1 = some (1, 0) ∧ fn_X8_about ref r x1 = some (0, 1)) := by
  obtain ⟨p, hp, p1, p2⟩ := h.pts
  obtain ⟨M, R, Fm, T, S, rfl, hP, hI, hC, hM, ⟨a1, a2, a3, -⟩, -⟩ := h
  have hF := hI.1
  unfold fn_X7_about fn_X8_about
  rw [in_0_9, kbs]
  by_cases c : 0 ≤ x1 ∧ x1 ≤ 9
  · rw [if_pos c, if_neg n10]
    unfold fn_X8_about_18
    rw [refused_m, kbs, if_pos (Int32.le_refl _), if_pos rfl]
    obtain ⟨j, hj, rfl⟩ := nat_of (n := 9) (by omega) c
    rcases (show j = 0 ∨ j = 1 ∨ j = 2 ∨ j = 3 ∨ j = 4 ∨ j = 5 ∨ j = 6 ∨ j = 7 ∨ j = 8 ∨ j = 9 by omega) with e | e | e | e | e | e | e | e | e | e <;> subst e
    · refine ⟨nI Fm, Or.inl ⟨?_, ?_⟩⟩
      · rw [if_pos (show nI 0 = (0 : Int32) from rfl)]
        unfold fn_X4_frameNow
        rw [kbs, hC.2.1]
      · rw [if_pos (show nI 0 = (0 : Int32) from rfl)]
        rw [hM.2.1]
    · refine ⟨nI (nin R Fm S Fm), Or.inl ⟨?_, ?_⟩⟩
      · rw [if_neg (show ¬ nI 1 = (0 : Int32) by decide), if_pos (show nI 1 = (1 : Int32) from rfl)]
        unfold fn_X4_frameNow
        have e : fn_X4_rollsIn rolls frm sr frm = some (nI (nin R Fm S Fm)) := by
          by_cases z : Fm < 10
          · rw [hC.2.1, ← hC.2.1]
            have := rollsIn_c hI hC z
            rwa [← hC.2.1] at this
          · have z2 : Fm = 10 := by omega
            subst z2
            have s1 := startOf_c hI hC (f := 10) (by omega)
            have s2 : fn_X4_startOf rolls frm sr (nI 11) = some (nI R) := by
              unfold fn_X4_startOf
              rw [if_neg (show ¬ nI 11 < 0 by decide), if_pos (show (10 : Int32) < nI 11 by decide), ← hC.1]
              rfl
            unfold fn_X4_rollsIn
            have ef : frm = nI 10 := hC.2.1
            rw [ef] at s1 s2 ⊢
            rw [show nI 10 + (1 : Int32) = nI 11 from rfl, s2, kbs, s1, kbs]
            have : nin R 10 S 10 = R - nst R 10 S 10 := by
              unfold nin
              rw [show nst R 10 S (10 + 1) = R from if_neg (by omega)]
            rw [this, pk_sub (nst_le hI 10)]
        rw [kbs, e, kbs]
      · rw [if_neg (show ¬ nI 1 = (0 : Int32) by decide), if_pos (show nI 1 = (1 : Int32) from rfl), isOver_m hF hM.2.1, kbs]
        by_cases z : Fm = 10
        · subst z
          rw [if_pos rfl, if_neg n10]
          have e10 := (hI.2.2.2.2.2.1 rfl).1
          have : nin R 10 S 10 = 0 := by
            unfold nin nst
            rw [if_neg (by omega), if_pos (Nat.le_refl _), e10]
            omega
          rw [this]
          rfl
        · rw [if_neg z, if_pos rfl, hM.2.1, show (63 : Int32) = nI 63 from rfl, ix_add, if_neg (nI_in (N := 79) (by omega) (by omega)), nI_clamp (by omega), hM.2.2.2.2 Fm (by omega)]
          rfl
    · refine ⟨nI R, Or.inl ⟨?_, ?_⟩⟩
      · rw [if_neg (show ¬ nI 2 = (0 : Int32) by decide), if_neg (show ¬ nI 2 = (1 : Int32) by decide), if_pos (show nI 2 = (2 : Int32) from rfl)]
        unfold fn_X4_rolls
        rw [kbs, hC.1]
      · rw [if_neg (show ¬ nI 2 = (0 : Int32) by decide), if_neg (show ¬ nI 2 = (1 : Int32) by decide), if_pos (show nI 2 = (2 : Int32) from rfl)]
        rw [hM.1]
    · refine ⟨nI p, Or.inl ⟨?_, ?_⟩⟩
      · rw [if_neg (show ¬ nI 3 = (0 : Int32) by decide), if_neg (show ¬ nI 3 = (1 : Int32) by decide), if_neg (show ¬ nI 3 = (2 : Int32) by decide), if_pos (show nI 3 = (3 : Int32) from rfl)]
        rw [p1, kbs]
      · rw [if_neg (show ¬ nI 3 = (0 : Int32) by decide), if_neg (show ¬ nI 3 = (1 : Int32) by decide), if_neg (show ¬ nI 3 = (2 : Int32) by decide), if_pos (show nI 3 = (3 : Int32) from rfl)]
        rw [p2, kbs]
    · refine ⟨sto, Or.inl ⟨?_, ?_⟩⟩
      · rw [if_neg (show ¬ nI 4 = (0 : Int32) by decide), if_neg (show ¬ nI 4 = (1 : Int32) by decide), if_neg (show ¬ nI 4 = (2 : Int32) by decide), if_neg (show ¬ nI 4 = (3 : Int32) by decide), if_pos (show nI 4 = (4 : Int32) from rfl)]
      · rw [if_neg (show ¬ nI 4 = (0 : Int32) by decide), if_neg (show ¬ nI 4 = (1 : Int32) by decide), if_neg (show ¬ nI 4 = (2 : Int32) by decide), if_neg (show ¬ nI 4 = (3 : Int32) by decide), if_pos (show nI 4 = (4 : Int32) from rfl), show (73 : Int32) + nI 4 - (4 : Int32) = nI 73 by decide, if_neg (nI_in (N := 79) (by omega) (by omega)), nI_clamp (by omega), a1]
    · refine ⟨dro, Or.inl ⟨?_, ?_⟩⟩
      · rw [if_neg (show ¬ nI 5 = (0 : Int32) by decide), if_neg (show ¬ nI 5 = (1 : Int32) by decide), if_neg (show ¬ nI 5 = (2 : Int32) by decide), if_neg (show ¬ nI 5 = (3 : Int32) by decide), if_neg (show ¬ nI 5 = (4 : Int32) by decide), if_pos (show nI 5 = (5 : Int32) from rfl)]
      · rw [if_neg (show ¬ nI 5 = (0 : Int32) by decide), if_neg (show ¬ nI 5 = (1 : Int32) by decide), if_neg (show ¬ nI 5 = (2 : Int32) by decide), if_neg (show ¬ nI 5 = (3 : Int32) by decide), if_neg (show ¬ nI 5 = (4 : Int32) by decide), if_pos (show nI 5 = (5 : Int32) from rfl), show (73 : Int32) + nI 5 - (4 : Int32) = nI 74 by decide, if_neg (nI_in (N := 79) (by omega) (by omega)), nI_clamp (by omega), a2]
    · refine ⟨fou, Or.inl ⟨?_, ?_⟩⟩
      · rw [if_neg (show ¬ nI 6 = (0 : Int32) by decide), if_neg (show ¬ nI 6 = (1 : Int32) by decide), if_neg (show ¬ nI 6 = (2 : Int32) by decide), if_neg (show ¬ nI 6 = (3 : Int32) by decide), if_neg (show ¬ nI 6 = (4 : Int32) by decide), if_neg (show ¬ nI 6 = (5 : Int32) by decide), if_pos (show nI 6 = (6 : Int32) from rfl)]
      · rw [if_neg (show ¬ nI 6 = (0 : Int32) by decide), if_neg (show ¬ nI 6 = (1 : Int32) by decide), if_neg (show ¬ nI 6 = (2 : Int32) by decide), if_neg (show ¬ nI 6 = (3 : Int32) by decide), if_neg (show ¬ nI 6 = (4 : Int32) by decide), if_neg (show ¬ nI 6 = (5 : Int32) by decide), if_pos (show nI 6 = (6 : Int32) from rfl), show (73 : Int32) + nI 6 - (4 : Int32) = nI 75 by decide, if_neg (nI_in (N := 79) (by omega) (by omega)), nI_clamp (by omega), a3]
    · refine ⟨nI (npop M 10), Or.inl ⟨?_, ?_⟩⟩
      · rw [if_neg (show ¬ nI 7 = (0 : Int32) by decide), if_neg (show ¬ nI 7 = (1 : Int32) by decide), if_neg (show ¬ nI 7 = (2 : Int32) by decide), if_neg (show ¬ nI 7 = (3 : Int32) by decide), if_neg (show ¬ nI 7 = (4 : Int32) by decide), if_neg (show ¬ nI 7 = (5 : Int32) by decide), if_neg (show ¬ nI 7 = (6 : Int32) by decide), if_pos (show nI 7 = (7 : Int32) from rfl)]
        unfold fn_X2_toldSet
        rw [kbs, bitCount_eq hP.1, kbs]
      · rw [if_neg (show ¬ nI 7 = (0 : Int32) by decide), if_neg (show ¬ nI 7 = (1 : Int32) by decide), if_neg (show ¬ nI 7 = (2 : Int32) by decide), if_neg (show ¬ nI 7 = (3 : Int32) by decide), if_neg (show ¬ nI 7 = (4 : Int32) by decide), if_neg (show ¬ nI 7 = (5 : Int32) by decide), if_neg (show ¬ nI 7 = (6 : Int32) by decide), if_pos (show nI 7 = (7 : Int32) from rfl)]
        rw [told_m hP.2.2.1, kbs]
    · have hb : ∀ k, k < 10 → r k = le k ∧ ((nless 1023 (nmore le 3)).testBit k = !decide (le k = 4)) := by
        intro k hk
        obtain ⟨l1, l2, l3, l4⟩ := hP.2.1 k hk
        refine ⟨l1, ?_⟩
        rw [nless_bit hk, b1023 hk, nmore_bit hk]
        have h3 := lv3_iff l3
        by_cases c4 : le k = 4
        · have : ¬ le k ≤ 3 := fun e => (h3.mp e) c4
          simp [c4, this]
        · have : le k ≤ 3 := h3.mpr c4
          simp [c4, this]
      refine ⟨nI (npop (nless 1023 (nmore le 3)) 10), Or.inl ⟨?_, ?_⟩⟩
      · rw [if_neg (show ¬ nI 8 = (0 : Int32) by decide), if_neg (show ¬ nI 8 = (1 : Int32) by decide), if_neg (show ¬ nI 8 = (2 : Int32) by decide), if_neg (show ¬ nI 8 = (3 : Int32) by decide), if_neg (show ¬ nI 8 = (4 : Int32) by decide), if_neg (show ¬ nI 8 = (5 : Int32) by decide), if_neg (show ¬ nI 8 = (6 : Int32) by decide), if_neg (show ¬ nI 8 = (7 : Int32) by decide), if_pos (show nI 8 = (8 : Int32) from rfl), upSet_c, kbs, bitCount_eq nless_lt, kbs]
      · rw [if_neg (show ¬ nI 8 = (0 : Int32) by decide), if_neg (show ¬ nI 8 = (1 : Int32) by decide), if_neg (show ¬ nI 8 = (2 : Int32) by decide), if_neg (show ¬ nI 8 = (3 : Int32) by decide), if_neg (show ¬ nI 8 = (4 : Int32) by decide), if_neg (show ¬ nI 8 = (5 : Int32) by decide), if_neg (show ¬ nI 8 = (6 : Int32) by decide), if_neg (show ¬ nI 8 = (7 : Int32) by decide), if_pos (show nI 8 = (8 : Int32) from rfl), show fn_X8_standing r = _ from standing_loop hb 10 0 4096 (by omega) (by omega), kbs]
    · refine ⟨if Fm = 10 then 1 else 0, Or.inl ⟨?_, ?_⟩⟩
      · rw [if_neg (show ¬ nI 9 = (0 : Int32) by decide), if_neg (show ¬ nI 9 = (1 : Int32) by decide), if_neg (show ¬ nI 9 = (2 : Int32) by decide), if_neg (show ¬ nI 9 = (3 : Int32) by decide), if_neg (show ¬ nI 9 = (4 : Int32) by decide), if_neg (show ¬ nI 9 = (5 : Int32) by decide), if_neg (show ¬ nI 9 = (6 : Int32) by decide), if_neg (show ¬ nI 9 = (7 : Int32) by decide), if_neg (show ¬ nI 9 = (8 : Int32) by decide), if_pos (show nI 9 = (9 : Int32) from rfl), hC.2.1, isOver_c hF, kbs]
        by_cases z : Fm = 10
        · rw [if_pos z, if_neg n10]; rfl
        · rw [if_neg z, if_pos rfl]; rfl
      · rw [if_neg (show ¬ nI 9 = (0 : Int32) by decide), if_neg (show ¬ nI 9 = (1 : Int32) by decide), if_neg (show ¬ nI 9 = (2 : Int32) by decide), if_neg (show ¬ nI 9 = (3 : Int32) by decide), if_neg (show ¬ nI 9 = (4 : Int32) by decide), if_neg (show ¬ nI 9 = (5 : Int32) by decide), if_neg (show ¬ nI 9 = (6 : Int32) by decide), if_neg (show ¬ nI 9 = (7 : Int32) by decide), if_neg (show ¬ nI 9 = (8 : Int32) by decide), if_pos (show nI 9 = (9 : Int32) from rfl), isOver_m hF hM.2.1, kbs]
        by_cases z : Fm = 10
        · rw [if_pos z, if_neg n10]; rfl
        · rw [if_neg z, if_pos rfl]; rfl
  · have m : ∀ k : Nat, k ≤ 9 → ¬ x1 = nI k := fun k hk e => c (by rw [e]; exact ⟨nI_pos' (by omega), nI_le (b := 9) hk (by omega)⟩)
    refine ⟨0, Or.inr ⟨?_, ?_⟩⟩
    · rw [if_neg (show ¬ x1 = (0 : Int32) from m 0 (by omega)), if_neg (show ¬ x1 = (1 : Int32) from m 1 (by omega)), if_neg (show ¬ x1 = (2 : Int32) from m 2 (by omega)), if_neg (show ¬ x1 = (3 : Int32) from m 3 (by omega)), if_neg (show ¬ x1 = (4 : Int32) from m 4 (by omega)), if_neg (show ¬ x1 = (5 : Int32) from m 5 (by omega)), if_neg (show ¬ x1 = (6 : Int32) from m 6 (by omega)), if_neg (show ¬ x1 = (7 : Int32) from m 7 (by omega)), if_neg (show ¬ x1 = (8 : Int32) from m 8 (by omega)), if_neg (show ¬ x1 = (9 : Int32) from m 9 (by omega))]
    · rw [if_neg c, if_pos rfl]
      unfold fn_X8_about_18
      rw [refused_m, kbs, if_neg nl1, if_neg n10]
end QU
