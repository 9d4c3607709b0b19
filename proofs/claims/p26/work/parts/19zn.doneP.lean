/-! acts: class and reference -/
section DO
variable {hsz hnx macts sto dro fou told rolls frm ref x1 x2 x3 x4 wl wr : Int32} {le sh tk sr se now diary side was : kF} {hs : Nat → kSt}
theorem sim_beginA (hH : HRel hsz hnx macts hs diary) (h : SREL sto dro fou told le sh rolls frm tk sr se now) :
    ∃ (a told' rolls' frm' hsz' hnx' macts' : Int32) (le' sh' now' diary' : kF) (hs' : Nat → kSt), fn_X7_begin sto dro fou told le sh rolls frm tk sr se hsz hnx hs = some (a, told', le', sh', rolls', frm', hsz', hnx', hs') ∧ fn_X8_begin ref macts now diary = some (a, 0, macts', now', diary') ∧ HRel hsz' hnx' macts' hs' diary' ∧ SREL sto dro fou told' le' sh' rolls' frm' tk sr se now' := by
  obtain ⟨hsz', hnx', macts', hs', diary', r1, r2, r3⟩ := sim_remember hH h
  obtain ⟨p, le', sh', now', hp, b1, b2, b3⟩ := sim_begin h
  refine ⟨nI p, 1023, 0, 0, hsz', hnx', macts', le', sh', now', diary', hs', ?_, ?_, r3, b3⟩
  · unfold fn_X7_begin
    rw [r1, kbs, b1, kbs]
  · unfold fn_X8_begin
    rw [r2, kbs, b2, kbs]
theorem sim_rollA (hH : HRel hsz hnx macts hs diary) (h : SREL sto dro fou told le sh rolls frm tk sr se now) :
    ∃ (a sto' dro' fou' told' wl' wr' rolls' frm' hsz' hnx' macts' : Int32) (le' sh' tk' sr' now' diary' side' was' : kF) (hs' : Nat → kSt),
      ((fn_X7_roll sto dro fou told wl wr le sh rolls frm tk sr se hsz hnx hs x1 x2 x3 x4 = some (1, 0, sto, dro, fou, told, wl, wr, le, sh, rolls, frm, tk, sr, hsz, hnx, hs) ∧ fn_X8_roll ref macts now diary side was x1 x2 x3 x4 = some (0, 1, macts, now, diary, side, was)) ∨
       (fn_X7_roll sto dro fou told wl wr le sh rolls frm tk sr se hsz hnx hs x1 x2 x3 x4 = some (2, 0, sto, dro, fou, told, wl, wr, le, sh, rolls, frm, tk, sr, hsz, hnx, hs) ∧ fn_X8_roll ref macts now diary side was x1 x2 x3 x4 = some (0, 2, macts, now, diary, side, was)) ∨
       (fn_X7_roll sto dro fou told wl wr le sh rolls frm tk sr se hsz hnx hs x1 x2 x3 x4 = some (0, a, sto', dro', fou', told', wl', wr', le', sh', rolls', frm', tk', sr', hsz', hnx', hs') ∧ fn_X8_roll ref macts now diary side was x1 x2 x3 x4 = some (a, 0, macts', now', diary', side', was') ∧ HRel hsz' hnx' macts' hs' diary' ∧ SREL sto' dro' fou' told' le' sh' rolls' frm' tk' sr' se now')) := by
  unfold fn_X7_roll fn_X8_roll fn_X8_roll_21 fn_X8_roll_40
  rw [ball_c, kbs, ball_m, kbs]
  by_cases c : (0 ≤ x1 ∧ x1 ≤ 40) ∧ (-2 ≤ x2 ∧ x2 ≤ 2)
  · rw [if_pos c, if_neg n10, if_neg n10, speed_c, kbs, in_1_30, kbs]
    by_cases d : 1 ≤ x3 ∧ x3 ≤ 30
    · obtain ⟨f, hf, hfe, h52⟩ := h.over
      rw [if_pos d, if_neg n10, if_neg n10, isOver_m hf h52, kbs]
      have hov : fn_X4_isOver frm = some (if f = 10 then 1 else 0) := by rw [hfe]; exact isOver_c hf
      rw [hov, kbs]
      by_cases e : f = 10
      · rw [if_pos e, if_neg n10, if_neg n10, refused_m, kbs, if_neg nl2, if_neg n10]
        exact ⟨0, sto, dro, fou, told, wl, wr, rolls, frm, hsz, hnx, macts, le, sh, tk, sr, now, diary, side, was, hs, Or.inr (Or.inl ⟨rfl, rfl⟩)⟩
      · obtain ⟨hsz', hnx', macts', hs', diary', r1, r2, r3⟩ := sim_remember hH h
        obtain ⟨a, sto', dro', fou', told', wl', wr', rolls', frm', le', sh', tk', sr', side', was', r', k1, k2, k3⟩ := sim_bowl (x1 := x1) (x2 := x2) (x3 := x3) (x4 := x4) (wl := wl) (wr := wr) (side := side) (was := was) h (by rw [hfe]; exact frm_lt hf e) (Int32.not_lt.mpr d.1)
        rw [if_neg e, if_pos rfl, if_pos rfl, r1, kbs, k1, kbs, refused_m, kbs, if_pos (Int32.le_refl _), if_pos rfl, r2, kbs, k2, kbs]
        exact ⟨a, sto', dro', fou', told', wl', wr', rolls', frm', hsz', hnx', macts', le', sh', tk', sr', r', diary', side', was', hs', Or.inr (Or.inr ⟨rfl, rfl, r3, k3⟩)⟩
    · rw [if_neg d, if_pos rfl, if_pos rfl, refused_m, kbs, if_neg nl1, if_neg n10]
      exact ⟨0, sto, dro, fou, told, wl, wr, rolls, frm, hsz, hnx, macts, le, sh, tk, sr, now, diary, side, was, hs, Or.inl ⟨rfl, rfl⟩⟩
  · rw [if_neg c, if_pos rfl, if_pos rfl, refused_m, kbs, if_neg nl1, if_neg n10]
    exact ⟨0, sto, dro, fou, told, wl, wr, rolls, frm, hsz, hnx, macts, le, sh, tk, sr, now, diary, side, was, hs, Or.inl ⟨rfl, rfl⟩⟩
theorem sim_touchA (hH : HRel hsz hnx macts hs diary) (h : SREL sto dro fou told le sh rolls frm tk sr se now) :
    ∃ (a hsz' hnx' macts' : Int32) (le' now' diary' : kF) (hs' : Nat → kSt),
      ((fn_X7_touch sto dro fou told le sh rolls frm tk sr se hsz hnx hs x1 x2 = some (3, 0, le, hsz, hnx, hs) ∧ fn_X8_touch ref macts now diary x1 x2 = some (0, 1, macts, now, diary)) ∨
       (fn_X7_touch sto dro fou told le sh rolls frm tk sr se hsz hnx hs x1 x2 = some (1, 0, le, hsz, hnx, hs) ∧ fn_X8_touch ref macts now diary x1 x2 = some (0, 2, macts, now, diary)) ∨
       (fn_X7_touch sto dro fou told le sh rolls frm tk sr se hsz hnx hs x1 x2 = some (2, 0, le, hsz, hnx, hs) ∧ fn_X8_touch ref macts now diary x1 x2 = some (0, 3, macts, now, diary)) ∨
       (fn_X7_touch sto dro fou told le sh rolls frm tk sr se hsz hnx hs x1 x2 = some (0, a, le', hsz', hnx', hs') ∧ fn_X8_touch ref macts now diary x1 x2 = some (a, 0, macts', now', diary') ∧ HRel hsz' hnx' macts' hs' diary' ∧ SREL sto dro fou told le' sh rolls frm tk sr se now')) := by
  have nl3 : ¬ (3 : Int32) ≤ 0 := by decide
  unfold fn_X7_touch fn_X8_touch fn_X8_touch_45
  rw [pin_c, kbs, pin_m, kbs]
  by_cases c : 0 ≤ x1 ∧ x1 ≤ 9
  · obtain ⟨k, hk, rfl⟩ := nat_of (n := 9) (by omega) c
    have hk10 : k < 10 := by omega
    have hl := h.lv hk10
    rw [if_pos c, if_neg n10, if_neg n10, lean3_c, kbs, in_0_3, kbs]
    by_cases d : 0 ≤ x2 ∧ x2 ≤ 3
    · rw [if_pos d, if_neg n10, if_neg n10, isUp_c hk10, kbs, ix_add0, if_neg (nI_in (N := 79) (by omega) (by omega)), nI_clamp (by omega), hl.1]
      by_cases e : le k = 4
      · rw [if_pos e, if_pos ((le4_iff hl.2.2.1).mpr e), if_pos rfl, refused_m, kbs, if_neg nl3, if_neg n10]
        exact ⟨0, hsz, hnx, macts, le, now, diary, hs, Or.inr (Or.inr (Or.inl ⟨rfl, rfl⟩))⟩
      · have e' : ¬ (4 : Int32) ≤ le k := fun z => e ((le4_iff hl.2.2.1).mp z)
        obtain ⟨hsz', hnx', macts', hs', diary', r1, r2, r3⟩ := sim_remember hH h
        rw [if_neg e, if_neg e', if_neg n10, r1, kbs, makeLean_c hk10 e', kbs, refused_m, kbs, if_pos (Int32.le_refl _), if_pos rfl, r2, kbs, touchOn_m hk10, kbs, hl.1]
        exact ⟨le k, hsz', hnx', macts', upd le k x2, upd now k x2, diary', hs', Or.inr (Or.inr (Or.inr ⟨rfl, rfl, r3, h.touch hk10 d⟩))⟩
    · rw [if_neg d, if_pos rfl, if_pos rfl, refused_m, kbs, if_neg nl2, if_neg n10]
      exact ⟨0, hsz, hnx, macts, le, now, diary, hs, Or.inr (Or.inl ⟨rfl, rfl⟩)⟩
  · rw [if_neg c, if_pos rfl, if_pos rfl, refused_m, kbs, if_neg nl1, if_neg n10]
    exact ⟨0, hsz, hnx, macts, le, now, diary, hs, Or.inl ⟨rfl, rfl⟩⟩
theorem sim_setA (hH : HRel hsz hnx macts hs diary) (h : SREL sto dro fou told le sh rolls frm tk sr se now) :
    ∃ (a hsz' hnx' macts' : Int32) (se' now' diary' : kF) (hs' : Nat → kSt),
      ((fn_X7_set sto dro fou told le sh rolls frm tk sr se hsz hnx hs x1 x2 = some (1, 0, se, hsz, hnx, hs) ∧ fn_X8_set ref macts now diary x1 x2 = some (0, 1, macts, now, diary)) ∨
       (fn_X7_set sto dro fou told le sh rolls frm tk sr se hsz hnx hs x1 x2 = some (0, a, se', hsz', hnx', hs') ∧ fn_X8_set ref macts now diary x1 x2 = some (a, 0, macts', now', diary') ∧ HRel hsz' hnx' macts' hs' diary' ∧ SREL sto dro fou told le sh rolls frm tk sr se' now')) := by
  have hbad : fn_X8_set_14 ref macts now diary x1 x2 1 = some (0, 1, macts, now, diary) := by
    unfold fn_X8_set_14
    rw [refused_m, kbs, if_neg nl1, if_neg n10]
  unfold fn_X7_set fn_X7_set_15 fn_X8_set
  rw [setting_c, kbs]
  by_cases c : 0 ≤ x1 ∧ x1 ≤ 2
  · obtain ⟨i, hi, rfl⟩ := nat_of (n := 2) (by omega) c
    have hi3 : i < 3 := by omega
    have hz : nI i = 0 ↔ i = 0 := nI_eq0 (by omega)
    rw [if_pos c, if_neg n10, value_c, kbs]
    by_cases v : (if i = 0 then 3 ≤ x2 ∧ x2 ≤ 90 else 0 ≤ x2 ∧ x2 ≤ 3)
    · have v1 : (if nI i = 0 then (if 3 ≤ x2 ∧ x2 ≤ 90 then (1 : Int32) else 0) else if 0 ≤ x2 ∧ x2 ≤ 3 then 1 else 0) = 1 := by
        by_cases c0 : i = 0
        · rw [if_pos c0] at v; rw [if_pos (hz.mpr c0), if_pos v]
        · rw [if_neg c0] at v; rw [if_neg (fun z => c0 (hz.mp z)), if_pos v]
      have v2 : (if nI i = 0 then 3 ≤ x2 ∧ x2 ≤ 90 else 0 ≤ x2 ∧ x2 ≤ 3) := by
        by_cases c0 : i = 0
        · rw [if_pos c0] at v; rw [if_pos (hz.mpr c0)]; exact v
        · rw [if_neg c0] at v; rw [if_neg (fun z => c0 (hz.mp z))]; exact v
      obtain ⟨hsz', hnx', macts', hs', diary', r1, r2, r3⟩ := sim_remember hH h
      rw [v1, if_neg n10, r1, kbs, change_c hi3, kbs, (setting_m _ _).trans (congrArg some (if_pos ⟨c, v2⟩)), kbs, if_neg n10]
      unfold fn_X8_set_14
      rw [refused_m, kbs, if_pos (Int32.le_refl _), if_pos rfl, r2, kbs, show (76 : Int32) = nI 76 from rfl, ix_add, if_neg (nI_in (N := 79) (by omega) (by omega)), if_neg (nI_in (N := 79) (by omega) (by omega)), nI_clamp (by omega), h.se hi3]
      exact ⟨se i, hsz', hnx', macts', upd se i x2, upd now (76 + i) x2, diary', hs', Or.inr ⟨rfl, rfl, r3, h.set hi3 v⟩⟩
    · have v1 : (if nI i = 0 then (if 3 ≤ x2 ∧ x2 ≤ 90 then (1 : Int32) else 0) else if 0 ≤ x2 ∧ x2 ≤ 3 then 1 else 0) = 0 := by
        by_cases c0 : i = 0
        · rw [if_pos c0] at v; rw [if_pos (hz.mpr c0), if_neg v]
        · rw [if_neg c0] at v; rw [if_neg (fun z => c0 (hz.mp z)), if_neg v]
      have v2 : ¬ (if nI i = 0 then 3 ≤ x2 ∧ x2 ≤ 90 else 0 ≤ x2 ∧ x2 ≤ 3) := by
        by_cases c0 : i = 0
        · rw [if_pos c0] at v; rw [if_pos (hz.mpr c0)]; exact v
        · rw [if_neg c0] at v; rw [if_neg (fun z => c0 (hz.mp z))]; exact v
      rw [v1, if_pos rfl, (setting_m _ _).trans (congrArg some (if_neg (fun z => v2 z.2))), kbs, if_pos rfl, hbad]
      exact ⟨0, hsz, hnx, macts, se, now, diary, hs, Or.inl ⟨rfl, rfl⟩⟩
  · rw [if_neg c, if_pos rfl, (setting_m _ _).trans (congrArg some (if_neg (fun z => c z.1))), kbs, if_pos rfl, hbad]
    exact ⟨0, hsz, hnx, macts, se, now, diary, hs, Or.inl ⟨rfl, rfl⟩⟩
end DO
