/-! what is remembered and kept: class and reference -/
def KREL (c : kSt) (r : kF) : Prop := SREL c.1 c.2.1 c.2.2.1 c.2.2.2.1 c.2.2.2.2.2.2.1 c.2.2.2.2.2.2.2.1 c.2.2.2.2.2.2.2.2.1 c.2.2.2.2.2.2.2.2.2.1 c.2.2.2.2.2.2.2.2.2.2.1 c.2.2.2.2.2.2.2.2.2.2.2.1 c.2.2.2.2.2.2.2.2.2.2.2.2 r
def HRel (hsz hnx macts : Int32) (hs : Nat → kSt) (diary : kF) : Prop := ∃ s x : Nat, s ≤ 14 ∧ x < 14 ∧ hsz = nI s ∧ hnx = nI x ∧ macts = nI s ∧ ∀ j, j < s → KREL (hs ((x + 14 - s + j) % 14)) (fun i => diary (79 * j + i))
theorem fm_c {x : Nat} (hx : x < 15) : fn_J9_floorMod_7cf53 (nI x) 14 = some (nI (x % 14)) := by
  have : ∀ x : Fin 15, fn_J9_floorMod_7cf53 (nI x.val) 14 = some (nI (x.val % 14)) := by decide +kernel
  exact this ⟨x, hx⟩
theorem fm_b {x : Nat} (hx : x < 14) : fn_J9_floorMod_7cf53 (nI x - 1) 14 = some (nI ((x + 13) % 14)) := by
  have : ∀ x : Fin 14, fn_J9_floorMod_7cf53 (nI x.val - 1) 14 = some (nI ((x.val + 13) % 14)) := by decide +kernel
  exact this ⟨x, hx⟩
theorem KREL.row {c : kSt} {r r' : kF} (h : KREL c r) (hk : ∀ i, i < 79 → r' i = r i) : KREL c r' := SREL.row h hk
theorem shift_loop {macts : Int32} {now d0 : kF} : ∀ (d k q : Nat) (diary : kF), k + d = 1027 → d < q → (∀ i, i < k → diary i = d0 (i + 79)) → (∀ i, k ≤ i → diary i = d0 i) → ∃ diary', fn_X8_remember_11 q macts now diary (nI k) = fn_X8_remember_49 (macts - 1) now diary' ∧ ∀ i, i < 1027 → diary' i = d0 (i + 79) := by
  intro d
  induction d with
  | zero =>
    intro k q diary hk hq h1 h2
    obtain ⟨q, rfl⟩ : ∃ z, q = z + 1 := ⟨q - 1, by omega⟩
    have hk : k = 1027 := by omega
    subst hk
    refine ⟨diary, ?_, h1⟩
    show (if (1027 : Int32) ≤ nI 1027 then _ else _) = _
    rw [if_pos (show (1027 : Int32) ≤ nI 1027 from Int32.le_refl _)]
  | succ d ih =>
    intro k q diary hk hq h1 h2
    obtain ⟨q, rfl⟩ : ∃ z, q = z + 1 := ⟨q - 1, by omega⟩
    obtain ⟨diary', e, e1⟩ := ih (k + 1) q (upd diary k (diary (k + 79))) (by omega) (by omega) (fun i hi => by
      by_cases c : i = k
      · subst c; rw [upd_self]; exact h2 (i + 79) (by omega)
      · rw [upd_ne c]; exact h1 i (by omega)) (fun i hi => by rw [upd_ne (by omega)]; exact h2 i (by omega))
    refine ⟨diary', ?_, e1⟩
    rw [← e]
    show (if _ then _ else _) = _
    rw [if_neg (show ¬ (1027 : Int32) ≤ nI k from ix_ge (n := 1027) (by omega) (by omega)), show nI k + (79 : Int32) = nI (k + 79) from ix_add k 79, if_neg (nI_in (N := 1106) (by omega) (by omega)), if_neg (nI_in (N := 1106) (by omega) (by omega)), nI_clamp (by omega), nI_clamp (by omega), nI_1]
theorem rem49 {s : Nat} {now diary : kF} (hs : s < 14) : ∃ diary', fn_X8_remember_49 (nI s) now diary = some (nI (s + 1), diary') ∧ (∀ j, j < 79 → diary' (79 * s + j) = now j) ∧ ∀ i, i < 79 * s → diary' i = diary i := by
  obtain ⟨g', e, e1, e2⟩ := copyState_eq (nf := 79) (ng := 1106) (f := now) (g := diary) 0 (79 * s) (by omega) (by omega) (by omega) (by omega)
  refine ⟨g', ?_, fun j hj => by have := e1 j hj; rwa [Nat.zero_add] at this, fun i hi => e2 i (Or.inl hi)⟩
  unfold fn_X8_remember_49
  rw [show (79 : Int32) * nI s = nI (79 * s) from pk_mul 79 s, show fn_X8_copyState 79 1106 now diary 0 (nI (79 * s)) = _ from e, kbs, nI_1]
theorem kup_self {hs : Nat → kSt} {i : Nat} {c : kSt} : kup hs i c i = c := if_pos rfl
theorem kup_ne {hs : Nat → kSt} {i j : Nat} {c : kSt} (h : j ≠ i) : kup hs i c j = hs j := if_neg h
theorem sim_remember {hsz hnx macts sto dro fou told rolls frm : Int32} {le sh tk sr se now diary : kF} {hs : Nat → kSt} (hH : HRel hsz hnx macts hs diary) (h : SREL sto dro fou told le sh rolls frm tk sr se now) :
    ∃ (hsz' hnx' macts' : Int32) (hs' : Nat → kSt) (diary' : kF), fn_X1_remember hsz hnx sto dro fou told le sh rolls frm tk sr se hs = some (hsz', hnx', hs') ∧ fn_X8_remember macts now diary = some (macts', diary') ∧ HRel hsz' hnx' macts' hs' diary' := by
  obtain ⟨s, x, h1, h2, rfl, rfl, rfl, hj⟩ := hH
  obtain ⟨le1, sh1, tk1, sr1, se1, e1, hc⟩ := copy_c (sto := (hs x).1) (dro := (hs x).2.1) (fou := (hs x).2.2.1) (told := (hs x).2.2.2.1) (rolls := (hs x).2.2.2.2.2.2.2.2.1) (frm := (hs x).2.2.2.2.2.2.2.2.2.1) (zsto := sto) (zdro := dro) (zfou := fou) (ztold := told) (zrolls := rolls) (zfrm := frm) (le := (hs x).2.2.2.2.2.2.1) (sh := (hs x).2.2.2.2.2.2.2.1) (tk := (hs x).2.2.2.2.2.2.2.2.2.2.1) (sr := (hs x).2.2.2.2.2.2.2.2.2.2.2.1) (se := (hs x).2.2.2.2.2.2.2.2.2.2.2.2) (zle := le) (zsh := sh) (ztk := tk) (zsr := sr) (zse := se)
  have ex : x % 14 = x := Nat.mod_eq_of_lt h2
  have hcl : fn_X1_remember (nI s) (nI x) sto dro fou told le sh rolls frm tk sr se hs = some (if (14 : Int32) < nI (s + 1) then 14 else nI (s + 1), nI ((x + 1) % 14), kup hs x (sto, dro, fou, told, (hs x).2.2.2.2.1, (hs x).2.2.2.2.2.1, le1, sh1, rolls, frm, tk1, sr1, se1)) := by
    unfold fn_X1_remember
    rw [fm_c (by omega), ex, kbs, if_neg (nI_in (N := 14) h2 (by omega)), nI_clamp (by omega), e1, kbs, nI_1, fm_c (by omega), kbs, nI_1]
  by_cases c : s = 14
  · subst c
    obtain ⟨d1, f1, f2⟩ := shift_loop (macts := nI 14) (now := now) (d0 := diary) 1027 0 4096 diary (by omega) (by omega) (fun i hi => absurd hi (Nat.not_lt_zero i)) (fun _ _ => rfl)
    obtain ⟨d2, g1, g2, g3⟩ := rem49 (s := 13) (now := now) (diary := d1) (by omega)
    refine ⟨_, _, nI 14, _, d2, hcl, ?_, 14, (x + 1) % 14, by omega, by omega, ?_, rfl, rfl, fun j hj2 => ?_⟩
    · unfold fn_X8_remember
      rw [if_pos (show nI 14 = (14 : Int32) from rfl), show (0 : Int32) = nI 0 from rfl, f1, show nI 14 - (1 : Int32) = nI 13 by decide, g1]
    · rw [if_pos (by decide)]
      rfl
    · by_cases cj : j = 13
      · subst cj
        rw [show ((x + 1) % 14 + 14 - 14 + 13) % 14 = x by omega, kup_self]
        exact (hc now h).row (fun i hi => g2 i hi)
      · rw [show ((x + 1) % 14 + 14 - 14 + j) % 14 = (x + 14 - 14 + (j + 1)) % 14 by omega, kup_ne (by omega)]
        refine (hj (j + 1) (by omega)).row (fun i hi => ?_)
        show d2 (79 * j + i) = diary (79 * (j + 1) + i)
        rw [g3 _ (by omega), f2 _ (by omega), show 79 * j + i + 79 = 79 * (j + 1) + i by omega]
  · obtain ⟨d2, g1, g2, g3⟩ := rem49 (s := s) (now := now) (diary := diary) (by omega)
    refine ⟨_, _, nI (s + 1), _, d2, hcl, ?_, s + 1, (x + 1) % 14, by omega, by omega, ?_, rfl, rfl, fun j hj2 => ?_⟩
    · unfold fn_X8_remember
      rw [if_neg (show ¬ nI s = (14 : Int32) from fun e => c ((nI_eq (b := 14) (by omega) (by omega)).mp e)), g1]
    · rw [if_neg (show ¬ (14 : Int32) < nI (s + 1) from nI_nlt (a := 14) (by omega) (by omega))]
    · by_cases cj : j = s
      · subst cj
        rw [show ((x + 1) % 14 + 14 - (j + 1) + j) % 14 = x by omega, kup_self]
        exact (hc now h).row (fun i hi => g2 i hi)
      · rw [show ((x + 1) % 14 + 14 - (s + 1) + j) % 14 = (x + 14 - s + j) % 14 by omega, kup_ne (by omega)]
        refine (hj j (by omega)).row (fun i hi => ?_)
        show d2 (79 * j + i) = diary (79 * j + i)
        exact g3 _ (by omega)
theorem HRel.forget {hsz hnx macts : Int32} {hs : Nat → kSt} {diary : kF} (h : HRel hsz hnx macts hs diary) : HRel 0 hnx 0 hs diary := by
  obtain ⟨s, x, h1, h2, rfl, rfl, rfl, hj⟩ := h
  exact ⟨0, x, by omega, h2, rfl, rfl, rfl, fun j hj => absurd hj (Nat.not_lt_zero j)⟩
theorem sim_undo {hsz hnx macts sto dro fou told rolls frm ref : Int32} {le sh tk sr se now diary : kF} {hs : Nat → kSt} (hH : HRel hsz hnx macts hs diary) (h : SREL sto dro fou told le sh rolls frm tk sr se now) :
    ∃ (a sto' dro' fou' told' rolls' frm' hsz' hnx' macts' : Int32) (le' sh' tk' sr' se' now' : kF),
      ((fn_X7_undo sto dro fou told le sh rolls frm tk sr se hsz hnx hs = some (2, 0, sto, dro, fou, told, le, sh, rolls, frm, tk, sr, se, hsz, hnx) ∧ fn_X8_undo ref macts now diary = some (0, 1, macts, now)) ∨
       (fn_X7_undo sto dro fou told le sh rolls frm tk sr se hsz hnx hs = some (0, a, sto', dro', fou', told', le', sh', rolls', frm', tk', sr', se', hsz', hnx') ∧ fn_X8_undo ref macts now diary = some (a, 0, macts', now') ∧ HRel hsz' hnx' macts' hs diary ∧ SREL sto' dro' fou' told' le' sh' rolls' frm' tk' sr' se' now')) := by
  obtain ⟨s, x, h1, h2, rfl, rfl, rfl, hj⟩ := hH
  unfold fn_X7_undo fn_X1_isEmpty fn_X8_undo
  by_cases c : s = 0
  · subst c
    refine ⟨0, 0, 0, 0, 0, 0, 0, 0, 0, 0, le, le, le, le, le, le, Or.inl ⟨?_, ?_⟩⟩
    · rw [if_pos (show nI 0 = (0 : Int32) from rfl)]
      rfl
    · rw [if_pos (show nI 0 = (0 : Int32) from rfl)]
      unfold fn_X8_undo_13
      rw [refused_m, kbs, if_neg nl1, if_neg n10]
  · have hz : ¬ nI s = 0 := fun e => c ((nI_eq0 (by omega)).mp e)
    obtain ⟨le1, sh1, tk1, sr1, se1, e1, hc⟩ := copy_c (sto := sto) (dro := dro) (fou := fou) (told := told) (rolls := rolls) (frm := frm) (zsto := (hs ((x + 13) % 14)).1) (zdro := (hs ((x + 13) % 14)).2.1) (zfou := (hs ((x + 13) % 14)).2.2.1) (ztold := (hs ((x + 13) % 14)).2.2.2.1) (zrolls := (hs ((x + 13) % 14)).2.2.2.2.2.2.2.2.1) (zfrm := (hs ((x + 13) % 14)).2.2.2.2.2.2.2.2.2.1) (le := le) (sh := sh) (tk := tk) (sr := sr) (se := se) (zle := (hs ((x + 13) % 14)).2.2.2.2.2.2.1) (zsh := (hs ((x + 13) % 14)).2.2.2.2.2.2.2.1) (ztk := (hs ((x + 13) % 14)).2.2.2.2.2.2.2.2.2.2.1) (zsr := (hs ((x + 13) % 14)).2.2.2.2.2.2.2.2.2.2.2.1) (zse := (hs ((x + 13) % 14)).2.2.2.2.2.2.2.2.2.2.2.2)
    obtain ⟨now', e2, e3, -⟩ := copyState_eq (nf := 1106) (ng := 79) (f := diary) (g := now) (79 * (s - 1)) 0 (by omega) (by omega) (by omega) (by omega)
    have hlast := hj (s - 1) (by omega)
    rw [show (x + 14 - s + (s - 1)) % 14 = (x + 13) % 14 by omega] at hlast
    have es : nI s - (1 : Int32) = nI (s - 1) := pk_sub (b := 1) (by omega)
    have hsz2 : (if nI (s - 1) < (0 : Int32) then (0 : Int32) else nI (s - 1)) = nI (s - 1) := if_neg (ix_neg (by omega))
    refine ⟨nI (s - 1), _, _, _, _, _, _, nI (s - 1), nI ((x + 13) % 14), nI (s - 1), le1, sh1, tk1, sr1, se1, now', Or.inr ⟨?_, ?_, ⟨s - 1, (x + 13) % 14, by omega, by omega, rfl, rfl, rfl, fun j hj2 => ?_⟩, (hc _ hlast).row (fun i hi => ?_)⟩⟩
    · rw [if_neg hz]
      show (fn_X1_takeBack _ _ _ _ _ _ _ _ _ _ _ _ _ _).bind _ = _
      unfold fn_X1_takeBack
      rw [fm_b h2, kbs, if_neg (nI_in (N := 14) (by omega) (by omega)), nI_clamp (by omega), e1, kbs, es, hsz2, kbs]
    · rw [if_neg hz]
      unfold fn_X8_undo_13
      rw [refused_m, kbs, if_pos (Int32.le_refl _), if_pos rfl, es, show (79 : Int32) * nI (s - 1) = nI (79 * (s - 1)) from pk_mul 79 _, show fn_X8_copyState 1106 79 diary now (nI (79 * (s - 1))) 0 = _ from e2, kbs]
    · rw [show ((x + 13) % 14 + 14 - (s - 1) + j) % 14 = (x + 14 - s + j) % 14 by omega]
      exact hj j (by omega)
    · have := e3 i hi
      rwa [Nat.zero_add] at this
/-- the slots -/
def GRel (lk isk kept : kF) (gs : Nat → kSt) : Prop := ∀ i, i < 2 → lk i = isk i ∧ (lk i ≠ 0 → KREL (gs i) (fun j => kept (79 * i + j)))
theorem GRel.upd2 {lk isk kept : kF} {gs : Nat → kSt} : GRel (upd (upd lk 0 0) 1 0) (upd (upd isk 0 0) 1 0) kept gs := by
  intro i hi
  rcases (show i = 0 ∨ i = 1 by omega) with e | e <;> subst e
  · exact ⟨by rw [upd_ne (by omega), upd_self, upd_ne (by omega), upd_self], fun h => absurd (by rw [upd_ne (by omega), upd_self]) h⟩
  · exact ⟨by rw [upd_self, upd_self], fun h => absurd (by rw [upd_self]) h⟩
theorem sim_save {sto dro fou told rolls frm ref x1 : Int32} {le sh tk sr se now lk isk kept : kF} {gs : Nat → kSt} (hG : GRel lk isk kept gs) (h : SREL sto dro fou told le sh rolls frm tk sr se now) :
    ∃ (a : Int32) (lk' isk' kept' : kF) (gs' : Nat → kSt),
      ((fn_X7_save sto dro fou told le sh rolls frm tk sr se lk gs x1 = some (3, 0, lk, gs) ∧ fn_X8_save ref now kept isk x1 = some (0, 1, kept, isk)) ∨
       (fn_X7_save sto dro fou told le sh rolls frm tk sr se lk gs x1 = some (0, a, lk', gs') ∧ fn_X8_save ref now kept isk x1 = some (a, 0, kept', isk') ∧ GRel lk' isk' kept' gs')) := by
  unfold fn_X7_save fn_X8_save
  rw [slot_c, kbs, in_0_1, kbs]
  by_cases c : 0 ≤ x1 ∧ x1 ≤ 1
  · obtain ⟨k, hk, rfl⟩ := nat_of (n := 1) (by omega) c
    obtain ⟨le1, sh1, tk1, sr1, se1, e1, hc⟩ := copy_c (sto := (gs k).1) (dro := (gs k).2.1) (fou := (gs k).2.2.1) (told := (gs k).2.2.2.1) (rolls := (gs k).2.2.2.2.2.2.2.2.1) (frm := (gs k).2.2.2.2.2.2.2.2.2.1) (zsto := sto) (zdro := dro) (zfou := fou) (ztold := told) (zrolls := rolls) (zfrm := frm) (le := (gs k).2.2.2.2.2.2.1) (sh := (gs k).2.2.2.2.2.2.2.1) (tk := (gs k).2.2.2.2.2.2.2.2.2.2.1) (sr := (gs k).2.2.2.2.2.2.2.2.2.2.2.1) (se := (gs k).2.2.2.2.2.2.2.2.2.2.2.2) (zle := le) (zsh := sh) (ztk := tk) (zsr := sr) (zse := se)
    obtain ⟨kept', e2, e3, e4⟩ := copyState_eq (nf := 79) (ng := 158) (f := now) (g := kept) 0 (79 * k) (by omega) (by omega) (by omega) (by omega)
    have h51 : now 51 = rolls := by
      obtain ⟨M, R, Fm, T, S, _, hP, hI, hC, hM, -⟩ := h
      rw [hM.1, hC.1]
    refine ⟨rolls, upd lk k (vp_nar .boolean 1), upd isk k (vp_nar .boolean 1), kept', kup gs k (sto, dro, fou, told, (gs k).2.2.2.2.1, (gs k).2.2.2.2.2.1, le1, sh1, rolls, frm, tk1, sr1, se1), Or.inr ⟨?_, ?_, ?_⟩⟩
    · rw [if_pos c, if_neg n10]
      unfold fn_X5_keep
      rw [slot_c, kbs, if_pos c, if_neg n10, if_neg (nI_in (N := 2) (by omega) (by omega)), nI_clamp (by omega), e1, kbs, if_neg (show ¬ (nI k < 0 ∨ 2 ≤ k) from fun z => z.elim (ix_neg (by omega)) (by omega))]
      unfold fn_X5_keep_24 fn_X4_rolls
      rw [kbs, kbs]
    · rw [if_pos c, if_neg n10]
      unfold fn_X8_save_16
      rw [refused_m, kbs, if_pos (Int32.le_refl _), if_pos rfl, show (79 : Int32) * nI k = nI (79 * k) from pk_mul 79 _, show fn_X8_copyState 79 158 now kept 0 (nI (79 * k)) = _ from e2, kbs, if_neg (nI_in (N := 2) (by omega) (by omega)), nI_clamp (by omega), h51]
    · intro i hi
      by_cases ci : i = k
      · subst ci
        refine ⟨by rw [upd_self, upd_self], fun _ => ?_⟩
        rw [kup_self]
        refine (hc now h).row (fun j hj => ?_)
        have := e3 j hj
        rwa [Nat.zero_add] at this
      · refine ⟨by rw [upd_ne ci, upd_ne ci]; exact (hG i hi).1, fun hz => ?_⟩
        rw [upd_ne ci] at hz
        rw [kup_ne ci]
        refine ((hG i hi).2 hz).row (fun j hj => ?_)
        exact e4 _ (by omega)
  · refine ⟨0, lk, lk, lk, gs, Or.inl ⟨?_, ?_⟩⟩
    · rw [if_neg c, if_pos rfl]
    · rw [if_neg c, if_pos rfl]
      unfold fn_X8_save_16
      rw [refused_m, kbs, if_neg nl1, if_neg n10]
theorem sim_restore {sto dro fou told rolls frm ref x1 hsz macts : Int32} {le sh tk sr se now lk isk kept : kF} {gs : Nat → kSt} (hG : GRel lk isk kept gs) :
    ∃ (a sto' dro' fou' told' rolls' frm' : Int32) (le' sh' tk' sr' se' now' : kF),
      ((fn_X7_restore sto dro fou told le sh rolls frm tk sr se hsz lk gs x1 = some (3, 0, sto, dro, fou, told, le, sh, rolls, frm, tk, sr, se, hsz) ∧ fn_X8_restore ref macts now kept isk x1 = some (0, 1, macts, now)) ∨
       (fn_X7_restore sto dro fou told le sh rolls frm tk sr se hsz lk gs x1 = some (2, 0, sto, dro, fou, told, le, sh, rolls, frm, tk, sr, se, hsz) ∧ fn_X8_restore ref macts now kept isk x1 = some (0, 2, macts, now)) ∨
       (fn_X7_restore sto dro fou told le sh rolls frm tk sr se hsz lk gs x1 = some (0, a, sto', dro', fou', told', le', sh', rolls', frm', tk', sr', se', 0) ∧ fn_X8_restore ref macts now kept isk x1 = some (a, 0, 0, now') ∧ SREL sto' dro' fou' told' le' sh' rolls' frm' tk' sr' se' now')) := by
  unfold fn_X7_restore fn_X8_restore
  rw [slot_c, kbs, in_0_1, kbs]
  by_cases c : 0 ≤ x1 ∧ x1 ≤ 1
  · obtain ⟨k, hk, rfl⟩ := nat_of (n := 1) (by omega) c
    have hb : ¬ (nI k < 0 ∨ 2 ≤ k) := fun z => z.elim (ix_neg (by omega)) (by omega)
    have hkept : fn_X5_isKept lk (nI k) = some (if lk k = 0 then 0 else 1) := by
      unfold fn_X5_isKept
      rw [slot_c, kbs, if_pos c, if_neg n10, if_neg (nI_in (N := 2) (by omega) (by omega)), nI_clamp (by omega)]
      by_cases z : lk k = 0
      · rw [if_pos z, if_pos z]; rfl
      · rw [if_neg z, if_neg z]; rfl
    obtain ⟨g1, g2⟩ := hG k (by omega)
    rw [if_pos c, if_neg n10, if_neg n10, hkept, kbs, if_neg (nI_in (N := 2) (by omega) (by omega)), nI_clamp (by omega), ← g1]
    by_cases z : lk k = 0
    · refine ⟨0, 0, 0, 0, 0, 0, 0, le, le, le, le, le, le, Or.inr (Or.inl ⟨?_, ?_⟩)⟩
      · rw [if_pos z, if_pos rfl]
      · rw [if_pos z]
        unfold fn_X8_restore_29
        rw [refused_m, kbs, if_neg nl2, if_neg n10]
    · obtain ⟨le1, sh1, tk1, sr1, se1, e1, hc⟩ := copy_c (sto := sto) (dro := dro) (fou := fou) (told := told) (rolls := rolls) (frm := frm) (zsto := (gs k).1) (zdro := (gs k).2.1) (zfou := (gs k).2.2.1) (ztold := (gs k).2.2.2.1) (zrolls := (gs k).2.2.2.2.2.2.2.2.1) (zfrm := (gs k).2.2.2.2.2.2.2.2.2.1) (le := le) (sh := sh) (tk := tk) (sr := sr) (se := se) (zle := (gs k).2.2.2.2.2.2.1) (zsh := (gs k).2.2.2.2.2.2.2.1) (ztk := (gs k).2.2.2.2.2.2.2.2.2.2.1) (zsr := (gs k).2.2.2.2.2.2.2.2.2.2.2.1) (zse := (gs k).2.2.2.2.2.2.2.2.2.2.2.2)
      obtain ⟨now', e2, e3, -⟩ := copyState_eq (nf := 158) (ng := 79) (f := kept) (g := now) (79 * k) 0 (by omega) (by omega) (by omega) (by omega)
      have hS := (hc _ (g2 z)).row (r' := now') (fun i hi => by have := e3 i hi; rwa [Nat.zero_add] at this)
      have h51 : now' 51 = (gs k).2.2.2.2.2.2.2.2.1 := by
        obtain ⟨M, R, Fm, T, S, _, hP, hI, hC, hM, -⟩ := hS
        rw [hM.1, hC.1]
      refine ⟨now' 51, _, _, _, _, _, _, _, _, _, _, _, now', Or.inr (Or.inr ⟨?_, ?_, hS⟩)⟩
      · rw [if_neg z, if_neg n10]
        unfold fn_X5_giveBack
        rw [hkept, kbs, if_neg z, if_neg n10, if_neg (nI_in (N := 2) (by omega) (by omega)), nI_clamp (by omega), e1, kbs]
        unfold fn_X5_giveBack_18 fn_X1_forget fn_X4_rolls
        rw [kbs, kbs, kbs, h51]
      · rw [if_neg z]
        unfold fn_X8_restore_29
        rw [refused_m, kbs, if_pos (Int32.le_refl _), if_pos rfl, show (79 : Int32) * nI k = nI (79 * k) from pk_mul 79 _, show fn_X8_copyState 158 79 kept now (nI (79 * k)) 0 = _ from e2, kbs]
  · refine ⟨0, 0, 0, 0, 0, 0, 0, le, le, le, le, le, le, Or.inl ⟨?_, ?_⟩⟩
    · rw [if_neg c, if_pos rfl]
    · rw [if_neg c, if_pos rfl]
      unfold fn_X8_restore_29
      rw [refused_m, kbs, if_neg nl1, if_neg n10]
