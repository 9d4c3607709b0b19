/-! states with what holds of them: acts and what is kept -/
def SR2 (sto dro fou told : Int32) (le sh : kF) (rolls frm : Int32) (tk sr se r : kF) : Prop := ∃ (M R Fm : Nat) (T S : Nat → Nat), SRel M R Fm T S sto dro fou told le sh rolls frm tk sr se r ∧ EX M R Fm T S
theorem SR2.se {sto dro fou told rolls frm : Int32} {le sh tk sr e9 r : kF} (h : SR2 sto dro fou told le sh rolls frm tk sr e9 r) {i : Nat} (hi : i < 3) : r (76 + i) = e9 i := by
  obtain ⟨M, R, Fm, T, S, h, -⟩ := h
  exact SREL.se ⟨M, R, Fm, T, S, h⟩ hi
section SR2s
variable {sto dro fou told rolls frm : Int32} {le sh tk sr se r : kF}
theorem SR2.toS (h : SR2 sto dro fou told le sh rolls frm tk sr se r) : SREL sto dro fou told le sh rolls frm tk sr se r := by
  obtain ⟨M, R, Fm, T, S, h, -⟩ := h
  exact ⟨M, R, Fm, T, S, h⟩
theorem SR2.row {r' : kF} (h : SR2 sto dro fou told le sh rolls frm tk sr se r) (hk : ∀ i, i < 79 → r' i = r i) : SR2 sto dro fou told le sh rolls frm tk sr se r' := by
  obtain ⟨M, R, Fm, T, S, h, hE⟩ := h
  exact ⟨M, R, Fm, T, S, h.row hk, hE⟩
theorem copy_c3 {sto dro fou told rolls frm zsto zdro zfou ztold zrolls zfrm : Int32} {le sh tk sr se zle zsh ztk zsr zse : kF} : ∃ le' sh' tk' sr' se', fn_X6_copyFrom sto dro fou told le sh rolls frm tk sr se zsto zdro zfou ztold zle zsh zrolls zfrm ztk zsr zse = some (zsto, zdro, zfou, ztold, le', sh', zrolls, zfrm, tk', sr', se') ∧ ∀ r, SR2 zsto zdro zfou ztold zle zsh zrolls zfrm ztk zsr zse r → SR2 zsto zdro zfou ztold le' sh' zrolls zfrm tk' sr' se' r := by
  obtain ⟨le', sh', tk', sr', se', e1, h1, h2, h3, h4⟩ := copy_ag (sto := sto) (dro := dro) (fou := fou) (told := told) (rolls := rolls) (frm := frm) (le := le) (sh := sh) (tk := tk) (sr := sr) (se := se) (zsto := zsto) (zdro := zdro) (zfou := zfou) (ztold := ztold) (zrolls := zrolls) (zfrm := zfrm) (zle := zle) (zsh := zsh) (ztk := ztk) (zsr := zsr) (zse := zse)
  refine ⟨le', sh', tk', sr', se', e1, fun r h => ?_⟩
  obtain ⟨M, R, Fm, T, S, h, hE⟩ := h
  exact ⟨M, R, Fm, T, S, h.cls h1 h2 h3 h4, hE⟩
theorem SR2.lv (h : SR2 sto dro fou told le sh rolls frm tk sr se r) {k : Nat} (hk : k < 10) : r k = le k ∧ r (10 + k) = sh k ∧ lvok (le k) ∧ shok (sh k) := h.toS.lv hk
theorem SR2.over (h : SR2 sto dro fou told le sh rolls frm tk sr se r) : ∃ a : Nat, a ≤ 10 ∧ frm = nI a ∧ r 52 = nI a := h.toS.over
/-- a pin that is touched, a value that is set: sheet and what is told stay -/
theorem SRel.touch {M R Fm : Nat} {T S : Nat → Nat} {sto dro fou told rolls frm : Int32} {le sh tk sr se r : kF} (h : SRel M R Fm T S sto dro fou told le sh rolls frm tk sr se r) {k : Nat} {v : Int32} (hk : k < 10) (hv : 0 ≤ v ∧ v ≤ 3) : SRel M R Fm T S sto dro fou told (upd le k v) sh rolls frm tk sr se (upd r k v) := by
  obtain ⟨e1, hP, hI, hC, hM, ⟨a1, a2, a3, a4, a5, a6⟩, hS⟩ := h
  obtain ⟨j, hj, rfl⟩ := nat_of (n := 3) (by omega) hv
  have hl : lvok (nI j) := by rcases (show j = 0 ∨ j = 1 ∨ j = 2 ∨ j = 3 by omega) with e | e | e | e <;> subst e <;> simp [lvok] <;> decide
  have h4 : nI j ≠ 4 := by rcases (show j = 0 ∨ j = 1 ∨ j = 2 ∨ j = 3 by omega) with e | e | e | e <;> subst e <;> decide
  refine ⟨e1, ⟨hP.1, hP.2.1.lean' hk hl, fun i hi => ?_, fun i hi hb => ?_⟩, hI, hC, hM.keep (R_le hI) (fun i hi _ => upd_ne (by omega)), ⟨(upd_ne (by omega)).trans a1, (upd_ne (by omega)).trans a2, (upd_ne (by omega)).trans a3, (upd_ne (by omega)).trans a4, (upd_ne (by omega)).trans a5, (upd_ne (by omega)).trans a6⟩, hS⟩
  · rw [upd_ne (by omega)]; exact hP.2.2.1 i hi
  · by_cases c : i = k
    · subst c; rw [upd_self]; exact h4
    · rw [upd_ne c]; exact hP.2.2.2 i hi hb
theorem SRel.set {M R Fm : Nat} {T S : Nat → Nat} {sto dro fou told rolls frm : Int32} {le sh tk sr se r : kF} (h : SRel M R Fm T S sto dro fou told le sh rolls frm tk sr se r) {i : Nat} {v : Int32} (hi : i < 3) (hv : if i = 0 then 3 ≤ v ∧ v ≤ 90 else 0 ≤ v ∧ v ≤ 3) : SRel M R Fm T S sto dro fou told le sh rolls frm tk sr (upd se i v) (upd r (76 + i) v) := by
  obtain ⟨e1, hP, hI, hC, hM, ⟨a1, a2, a3, a4, a5, a6⟩, hS⟩ := h
  refine ⟨e1, hP.keep (fun j hj => upd_ne (by omega)), hI, hC, hM.keep (R_le hI) (fun j _ hj => upd_ne (by omega)), ⟨(upd_ne (by omega)).trans a1, (upd_ne (by omega)).trans a2, (upd_ne (by omega)).trans a3, ?_, ?_, ?_⟩, ?_, ?_⟩
  · by_cases c : i = 0
    · subst c; exact upd_self.trans upd_self.symm
    · rw [upd_ne (by omega), upd_ne (by omega), a4]
  · by_cases c : i = 1
    · subst c; exact upd_self.trans upd_self.symm
    · rw [upd_ne (by omega), upd_ne (by omega), a5]
  · by_cases c : i = 2
    · subst c; exact upd_self.trans upd_self.symm
    · rw [upd_ne (by omega), upd_ne (by omega), a6]
  · by_cases c : i = 0
    · subst c
      rw [upd_self]
      exact hv.1
    · rw [upd_ne (fun e => c e.symm)]; exact hS.1
  · by_cases c : i = 1
    · subst c
      rw [upd_self]
      exact Int32.lt_of_le_of_lt hv.2 (by decide)
    · rw [upd_ne (fun e => c e.symm)]; exact hS.2
theorem SR2.touch (h : SR2 sto dro fou told le sh rolls frm tk sr se r) {k : Nat} {v : Int32} (hk : k < 10) (hv : 0 ≤ v ∧ v ≤ 3) : SR2 sto dro fou told (upd le k v) sh rolls frm tk sr se (upd r k v) := by
  obtain ⟨M, R, Fm, T, S, h, hE⟩ := h
  exact ⟨M, R, Fm, T, S, h.touch hk hv, hE⟩
theorem SR2.set (h : SR2 sto dro fou told le sh rolls frm tk sr se r) {i : Nat} {v : Int32} (hi : i < 3) (hv : if i = 0 then 3 ≤ v ∧ v ≤ 90 else 0 ≤ v ∧ v ≤ 3) : SR2 sto dro fou told le sh rolls frm tk sr (upd se i v) (upd r (76 + i) v) := by
  obtain ⟨M, R, Fm, T, S, h, hE⟩ := h
  exact ⟨M, R, Fm, T, S, h.set hi hv, hE⟩
theorem sim_begin_2 (h : SR2 sto dro fou told le sh rolls frm tk sr se r) :
    ∃ (p : Nat) (le' sh' r' : kF), p ≤ 300 ∧ fn_X6_beginGame told le sh rolls frm tk sr = some (nI p, 1023, le', sh', 0, 0) ∧ fn_X8_beginOn r = some (nI p, r') ∧ SR2 sto dro fou 1023 le' sh' 0 0 tk sr se r' := by
  obtain ⟨p, le', sh', r', h1, h2, h3, h4⟩ := sim_begin h.toS
  refine ⟨p, le', sh', r', h1, h2, h3, ?_⟩
  obtain ⟨M, R, Fm, T, S, h5⟩ := h4
  refine ⟨M, R, Fm, T, S, h5, ?_⟩
  have hI := h5.2.2.1
  have hC := h5.2.2.2.1
  have e1 : R = 0 := by
    have := hC.1
    exact ((nI_eq (a := 0) (by omega) (by have := R_le hI; omega)).mp this).symm
  have e2 : Fm = 0 := by
    have := hC.2.1
    exact ((nI_eq (a := 0) (by omega) (by have := hI.1; omega)).mp this).symm
  subst e1 e2
  exact EX_0 hI.2.1
theorem sim_bowl_2 {x1 x2 x3 x4 wl wr : Int32} {side was : kF} (h : SR2 sto dro fou told le sh rolls frm tk sr se r) (hF : frm < 10) (hx : ¬ x3 < 1) :
    ∃ (a sto' dro' fou' told' wl' wr' rolls' frm' : Int32) (le' sh' tk' sr' side' was' r' : kF), fn_X6_bowl sto dro fou told wl wr le sh rolls frm tk sr se x1 x2 x3 x4 = some (a, sto', dro', fou', told', wl', wr', le', sh', rolls', frm', tk', sr') ∧
      fn_X8_throwOn side was r x1 x2 x3 x4 = some (a, side', was', r') ∧ SR2 sto' dro' fou' told' le' sh' rolls' frm' tk' sr' se r' := by
  obtain ⟨M, R, Fm, T, S, h, hE⟩ := h
  have h0 := h
  obtain ⟨-, hP, hI, hC, hM, hX, hS⟩ := h0
  have hF2 : Fm < 10 := by
    have := hI.1
    rw [hC.2.1] at hF
    rcases Nat.lt_or_ge Fm 10 with z | z
    · exact z
    · exact absurd hF (nI_nlt (b := 10) z (by omega))
  unfold fn_X8_throwOn
  rw [bowl_eq hx, stops_m hx, kbs, hX.2.2.2.1]
  by_cases c : (90 : Int32) / x3 ≤ se 0
  · obtain ⟨lb, hB⟩ := ball_ex hP.2.1 x1 x2
    obtain ⟨t, M', wl', wr', dro', fou', le', sh', tk', sr', side', was', r', k0, k1, k2, k3, k4, -⟩ := sim_roll2 (x1 := x1) (x2 := x2) (x4 := x4) (wl := wl) (wr := wr) (side := side) (was := was) h hF2 hB
    rw [if_pos c, if_pos c, if_pos rfl, k1, k2, kbs]
    exact ⟨_, _, _, _, _, _, _, _, _, _, _, _, _, _, _, _, rfl, rfl, M', _, _, _, _, k3, EX_add hI hE hF2 k0 k4⟩
  · rw [if_neg c, if_neg c, if_neg (by decide)]
    obtain ⟨a1, a2, a3, a4, a5, a6⟩ := hX
    refine ⟨_, _, _, _, _, _, _, _, _, _, _, _, _, _, _, _, rfl, rfl, M, R, Fm, T, S, ⟨h.1, hP.keep (fun i hi => upd_ne (by omega)), hI, hC, hM.keep (R_le hI) (fun i hi hi2 => upd_ne (by omega)), ⟨by rw [upd_self, a1], (upd_ne (by omega)).trans a2, (upd_ne (by omega)).trans a3, (upd_ne (by omega)).trans a4, (upd_ne (by omega)).trans a5, (upd_ne (by omega)).trans a6⟩, hS⟩, hE⟩
end SR2s
def KR2 (c : kSt) (r : kF) : Prop := SR2 c.1 c.2.1 c.2.2.1 c.2.2.2.1 c.2.2.2.2.2.2.1 c.2.2.2.2.2.2.2.1 c.2.2.2.2.2.2.2.2.1 c.2.2.2.2.2.2.2.2.2.1 c.2.2.2.2.2.2.2.2.2.2.1 c.2.2.2.2.2.2.2.2.2.2.2.1 c.2.2.2.2.2.2.2.2.2.2.2.2 r
def HR2 (hsz hnx macts : Int32) (hs : Nat → kSt) (diary : kF) : Prop := ∃ s x : Nat, s ≤ 14 ∧ x < 14 ∧ hsz = nI s ∧ hnx = nI x ∧ macts = nI s ∧ ∀ j, j < s → KR2 (hs ((x + 14 - s + j) % 14)) (fun i => diary (79 * j + i))
theorem KR2.row {c : kSt} {r r' : kF} (h : KR2 c r) (hk : ∀ i, i < 79 → r' i = r i) : KR2 c r' := SR2.row h hk
theorem sim_remember_2 {hsz hnx macts sto dro fou told rolls frm : Int32} {le sh tk sr se now diary : kF} {hs : Nat → kSt} (hH : HR2 hsz hnx macts hs diary) (h : SR2 sto dro fou told le sh rolls frm tk sr se now) :
    ∃ (hsz' hnx' macts' : Int32) (hs' : Nat → kSt) (diary' : kF), fn_X1_remember hsz hnx sto dro fou told le sh rolls frm tk sr se hs = some (hsz', hnx', hs') ∧ fn_X8_remember macts now diary = some (macts', diary') ∧ HR2 hsz' hnx' macts' hs' diary' := by
  obtain ⟨s, x, h1, h2, rfl, rfl, rfl, hj⟩ := hH
  obtain ⟨le1, sh1, tk1, sr1, se1, e1, hc⟩ := copy_c3 (sto := (hs x).1) (dro := (hs x).2.1) (fou := (hs x).2.2.1) (told := (hs x).2.2.2.1) (rolls := (hs x).2.2.2.2.2.2.2.2.1) (frm := (hs x).2.2.2.2.2.2.2.2.2.1) (zsto := sto) (zdro := dro) (zfou := fou) (ztold := told) (zrolls := rolls) (zfrm := frm) (le := (hs x).2.2.2.2.2.2.1) (sh := (hs x).2.2.2.2.2.2.2.1) (tk := (hs x).2.2.2.2.2.2.2.2.2.2.1) (sr := (hs x).2.2.2.2.2.2.2.2.2.2.2.1) (se := (hs x).2.2.2.2.2.2.2.2.2.2.2.2) (zle := le) (zsh := sh) (ztk := tk) (zsr := sr) (zse := se)
  have ex : x % 14 = x := Nat.mod_eq_of_lt h2
  have hcl : fn_X1_remember (nI s) (nI x) sto dro fou told le sh rolls frm tk sr se hs = some (if (14 : Int32) < nI (s + 1) then 14 else nI (s + 1), nI ((x + 1) % 14), kup hs x (sto, dro, fou, told, (hs x).2.2.2.2.1, (hs x).2.2.2.2.2.1, le1, sh1, rolls, frm, tk1, sr1, se1)) := by
    unfold fn_X1_remember
    rw [fm_c (by omega), ex, kbs, if_neg (nI_in (N := 14) h2 (by omega)), nI_clamp (by omega), e1, kbs, nI_1, fm_c (by omega), kbs, nI_1]
  by_cases c : s = 14
  · subst c
    obtain ⟨d1, f1, f2⟩ := shift_loop (macts := nI 14) (now := now) (d0 := diary) 1027 0 4096 diary (by omega) (by omega) (fun i hi => absurd hi (Nat.not_lt_zero i)) (fun _ _ => rfl)
    obtain ⟨d2, g1, g2, g3⟩ := rem49 (s := 13) (now := now) (diary := d1) (by omega)
    refine ⟨_, _, nI 14, _, d2, hcl, ?_, 14, (x + 1) % 14, by omega, by omega, ?_, rfl, rfl, fun j hj2 => ?_⟩
    · unfold fn_X8_remember
      rw [if_pos (show nI 14 = (14 : Int32) from rfl), show (0 : Int32) = nI 0 from rfl, f1, show nI 14 - (1 : Int32) = nI 13 by decide, g1]
    · rw [if_pos (by decide)]
      rfl
    · by_cases cj : j = 13
      · subst cj
        rw [show ((x + 1) % 14 + 14 - 14 + 13) % 14 = x by omega, kup_self]
        exact (hc now h).row (fun i hi => g2 i hi)
      · rw [show ((x + 1) % 14 + 14 - 14 + j) % 14 = (x + 14 - 14 + (j + 1)) % 14 by omega, kup_ne (by omega)]
        refine (hj (j + 1) (by omega)).row (fun i hi => ?_)
        show d2 (79 * j + i) = diary (79 * (j + 1) + i)
        rw [g3 _ (by omega), f2 _ (by omega), show 79 * j + i + 79 = 79 * (j + 1) + i by omega]
  · obtain ⟨d2, g1, g2, g3⟩ := rem49 (s := s) (now := now) (diary := diary) (by omega)
    refine ⟨_, _, nI (s + 1), _, d2, hcl, ?_, s + 1, (x + 1) % 14, by omega, by omega, ?_, rfl, rfl, fun j hj2 => ?_⟩
    · unfold fn_X8_remember
      rw [if_neg (show ¬ nI s = (14 : Int32) from fun e => c ((nI_eq (b := 14) (by omega) (by omega)).mp e)), g1]
    · rw [if_neg (show ¬ (14 : Int32) < nI (s + 1) from nI_nlt (a := 14) (by omega) (by omega))]
    · by_cases cj : j = s
      · subst cj
        rw [show ((x + 1) % 14 + 14 - (j + 1) + j) % 14 = x by omega, kup_self]
        exact (hc now h).row (fun i hi => g2 i hi)
      · rw [show ((x + 1) % 14 + 14 - (s + 1) + j) % 14 = (x + 14 - s + j) % 14 by omega, kup_ne (by omega)]
        refine (hj j (by omega)).row (fun i hi => ?_)
        show d2 (79 * j + i) = diary (79 * j + i)
        exact g3 _ (by omega)
theorem HR2.forget {hsz hnx macts : Int32} {hs : Nat → kSt} {diary : kF} (h : HR2 hsz hnx macts hs diary) : HR2 0 hnx 0 hs diary := by
  obtain ⟨s, x, h1, h2, rfl, rfl, rfl, hj⟩ := h
  exact ⟨0, x, by omega, h2, rfl, rfl, rfl, fun j hj => absurd hj (Nat.not_lt_zero j)⟩
theorem sim_undo_2 {hsz hnx macts sto dro fou told rolls frm ref : Int32} {le sh tk sr se now diary : kF} {hs : Nat → kSt} (hH : HR2 hsz hnx macts hs diary) (h : SR2 sto dro fou told le sh rolls frm tk sr se now) :
    ∃ (a sto' dro' fou' told' rolls' frm' hsz' hnx' macts' : Int32) (le' sh' tk' sr' se' now' : kF),
      ((fn_X7_undo sto dro fou told le sh rolls frm tk sr se hsz hnx hs = some (2, 0, sto, dro, fou, told, le, sh, rolls, frm, tk, sr, se, hsz, hnx) ∧ fn_X8_undo ref macts now diary = some (0, 1, macts, now)) ∨
       (fn_X7_undo sto dro fou told le sh rolls frm tk sr se hsz hnx hs = some (0, a, sto', dro', fou', told', le', sh', rolls', frm', tk', sr', se', hsz', hnx') ∧ fn_X8_undo ref macts now diary = some (a, 0, macts', now') ∧ HR2 hsz' hnx' macts' hs diary ∧ SR2 sto' dro' fou' told' le' sh' rolls' frm' tk' sr' se' now')) := by
  obtain ⟨s, x, h1, h2, rfl, rfl, rfl, hj⟩ := hH
  unfold fn_X7_undo fn_X1_isEmpty fn_X8_undo
  by_cases c : s = 0
  · subst c
    refine ⟨0, 0, 0, 0, 0, 0, 0, 0, 0, 0, le, le, le, le, le, le, Or.inl ⟨?_, ?_⟩⟩
    · rw [if_pos (show nI 0 = (0 : Int32) from rfl)]
      rfl
    · rw [if_pos (show nI 0 = (0 : Int32) from rfl)]
      unfold fn_X8_undo_13
      rw [refused_m, kbs, if_neg nl1, if_neg n10]
  · have hz : ¬ nI s = 0 := fun e => c ((nI_eq0 (by omega)).mp e)
    obtain ⟨le1, sh1, tk1, sr1, se1, e1, hc⟩ := copy_c3 (sto := sto) (dro := dro) (fou := fou) (told := told) (rolls := rolls) (frm := frm) (zsto := (hs ((x + 13) % 14)).1) (zdro := (hs ((x + 13) % 14)).2.1) (zfou := (hs ((x + 13) % 14)).2.2.1) (ztold := (hs ((x + 13) % 14)).2.2.2.1) (zrolls := (hs ((x + 13) % 14)).2.2.2.2.2.2.2.2.1) (zfrm := (hs ((x + 13) % 14)).2.2.2.2.2.2.2.2.2.1) (le := le) (sh := sh) (tk := tk) (sr := sr) (se := se) (zle := (hs ((x + 13) % 14)).2.2.2.2.2.2.1) (zsh := (hs ((x + 13) % 14)).2.2.2.2.2.2.2.1) (ztk := (hs ((x + 13) % 14)).2.2.2.2.2.2.2.2.2.2.1) (zsr := (hs ((x + 13) % 14)).2.2.2.2.2.2.2.2.2.2.2.1) (zse := (hs ((x + 13) % 14)).2.2.2.2.2.2.2.2.2.2.2.2)
    obtain ⟨now', e2, e3, -⟩ := copyState_eq (nf := 1106) (ng := 79) (f := diary) (g := now) (79 * (s - 1)) 0 (by omega) (by omega) (by omega) (by omega)
    have hlast := hj (s - 1) (by omega)
    rw [show (x + 14 - s + (s - 1)) % 14 = (x + 13) % 14 by omega] at hlast
    have es : nI s - (1 : Int32) = nI (s - 1) := pk_sub (b := 1) (by omega)
    have hsz2 : (if nI (s - 1) < (0 : Int32) then (0 : Int32) else nI (s - 1)) = nI (s - 1) := if_neg (ix_neg (by omega))
    refine ⟨nI (s - 1), _, _, _, _, _, _, nI (s - 1), nI ((x + 13) % 14), nI (s - 1), le1, sh1, tk1, sr1, se1, now', Or.inr ⟨?_, ?_, ⟨s - 1, (x + 13) % 14, by omega, by omega, rfl, rfl, rfl, fun j hj2 => ?_⟩, (hc _ hlast).row (fun i hi => ?_)⟩⟩
    · rw [if_neg hz]
      show (fn_X1_takeBack _ _ _ _ _ _ _ _ _ _ _ _ _ _).bind _ = _
      unfold fn_X1_takeBack
      rw [fm_b h2, kbs, if_neg (nI_in (N := 14) (by omega) (by omega)), nI_clamp (by omega), e1, kbs, es, hsz2, kbs]
    · rw [if_neg hz]
      unfold fn_X8_undo_13
      rw [refused_m, kbs, if_pos (Int32.le_refl _), if_pos rfl, es, show (79 : Int32) * nI (s - 1) = nI (79 * (s - 1)) from pk_mul 79 _, show fn_X8_copyState 1106 79 diary now (nI (79 * (s - 1))) 0 = _ from e2, kbs]
    · rw [show ((x + 13) % 14 + 14 - (s - 1) + j) % 14 = (x + 14 - s + j) % 14 by omega]
      exact hj j (by omega)
    · have := e3 i hi
      rwa [Nat.zero_add] at this
def GR2 (lk isk kept : kF) (gs : Nat → kSt) : Prop := ∀ i, i < 2 → lk i = isk i ∧ (lk i ≠ 0 → KR2 (gs i) (fun j => kept (79 * i + j)))
theorem sim_save_2 {sto dro fou told rolls frm ref x1 : Int32} {le sh tk sr se now lk isk kept : kF} {gs : Nat → kSt} (hG : GR2 lk isk kept gs) (h : SR2 sto dro fou told le sh rolls frm tk sr se now) :
    ∃ (a : Int32) (lk' isk' kept' : kF) (gs' : Nat → kSt),
      ((fn_X7_save sto dro fou told le sh rolls frm tk sr se lk gs x1 = some (3, 0, lk, gs) ∧ fn_X8_save ref now kept isk x1 = some (0, 1, kept, isk)) ∨
       (fn_X7_save sto dro fou told le sh rolls frm tk sr se lk gs x1 = some (0, a, lk', gs') ∧ fn_X8_save ref now kept isk x1 = some (a, 0, kept', isk') ∧ GR2 lk' isk' kept' gs')) := by
  unfold fn_X7_save fn_X8_save
  rw [slot_c, kbs, in_0_1, kbs]
  by_cases c : 0 ≤ x1 ∧ x1 ≤ 1
  · obtain ⟨k, hk, rfl⟩ := nat_of (n := 1) (by omega) c
    obtain ⟨le1, sh1, tk1, sr1, se1, e1, hc⟩ := copy_c3 (sto := (gs k).1) (dro := (gs k).2.1) (fou := (gs k).2.2.1) (told := (gs k).2.2.2.1) (rolls := (gs k).2.2.2.2.2.2.2.2.1) (frm := (gs k).2.2.2.2.2.2.2.2.2.1) (zsto := sto) (zdro := dro) (zfou := fou) (ztold := told) (zrolls := rolls) (zfrm := frm) (le := (gs k).2.2.2.2.2.2.1) (sh := (gs k).2.2.2.2.2.2.2.1) (tk := (gs k).2.2.2.2.2.2.2.2.2.2.1) (sr := (gs k).2.2.2.2.2.2.2.2.2.2.2.1) (se := (gs k).2.2.2.2.2.2.2.2.2.2.2.2) (zle := le) (zsh := sh) (ztk := tk) (zsr := sr) (zse := se)
    obtain ⟨kept', e2, e3, e4⟩ := copyState_eq (nf := 79) (ng := 158) (f := now) (g := kept) 0 (79 * k) (by omega) (by omega) (by omega) (by omega)
    have h51 : now 51 = rolls := by
      obtain ⟨M, R, Fm, T, S, ⟨_, hP, hI, hC, hM, -⟩, -⟩ := h
      rw [hM.1, hC.1]
    refine ⟨rolls, upd lk k (vp_nar .boolean 1), upd isk k (vp_nar .boolean 1), kept', kup gs k (sto, dro, fou, told, (gs k).2.2.2.2.1, (gs k).2.2.2.2.2.1, le1, sh1, rolls, frm, tk1, sr1, se1), Or.inr ⟨?_, ?_, ?_⟩⟩
    · rw [if_pos c, if_neg n10]
      unfold fn_X5_keep
      rw [slot_c, kbs, if_pos c, if_neg n10, if_neg (nI_in (N := 2) (by omega) (by omega)), nI_clamp (by omega), e1, kbs, if_neg (show ¬ (nI k < 0 ∨ 2 ≤ k) from fun z => z.elim (ix_neg (by omega)) (by omega))]
      unfold fn_X5_keep_24 fn_X4_rolls
      rw [kbs, kbs]
    · rw [if_pos c, if_neg n10]
      unfold fn_X8_save_16
      rw [refused_m, kbs, if_pos (Int32.le_refl _), if_pos rfl, show (79 : Int32) * nI k = nI (79 * k) from pk_mul 79 _, show fn_X8_copyState 79 158 now kept 0 (nI (79 * k)) = _ from e2, kbs, if_neg (nI_in (N := 2) (by omega) (by omega)), nI_clamp (by omega), h51]
    · intro i hi
      by_cases ci : i = k
      · subst ci
        refine ⟨by rw [upd_self, upd_self], fun _ => ?_⟩
        rw [kup_self]
        refine (hc now h).row (fun j hj => ?_)
        have := e3 j hj
        rwa [Nat.zero_add] at this
      · refine ⟨by rw [upd_ne ci, upd_ne ci]; exact (hG i hi).1, fun hz => ?_⟩
        rw [upd_ne ci] at hz
        rw [kup_ne ci]
        refine ((hG i hi).2 hz).row (fun j hj => ?_)
        exact e4 _ (by omega)
  · refine ⟨0, lk, lk, lk, gs, Or.inl ⟨?_, ?_⟩⟩
    · rw [if_neg c, if_pos rfl]
    · rw [if_neg c, if_pos rfl]
      unfold fn_X8_save_16
      rw [refused_m, kbs, if_neg nl1, if_neg n10]
theorem sim_restore_2 {sto dro fou told rolls frm ref x1 hsz macts : Int32} {le sh tk sr se now lk isk kept : kF} {gs : Nat → kSt} (hG : GR2 lk isk kept gs) :
    ∃ (a sto' dro' fou' told' rolls' frm' : Int32) (le' sh' tk' sr' se' now' : kF),
      ((fn_X7_restore sto dro fou told le sh rolls frm tk sr se hsz lk gs x1 = some (3, 0, sto, dro, fou, told, le, sh, rolls, frm, tk, sr, se, hsz) ∧ fn_X8_restore ref macts now kept isk x1 = some (0, 1, macts, now)) ∨
       (fn_X7_restore sto dro fou told le sh rolls frm tk sr se hsz lk gs x1 = some (2, 0, sto, dro, fou, told, le, sh, rolls, frm, tk, sr, se, hsz) ∧ fn_X8_restore ref macts now kept isk x1 = some (0, 2, macts, now)) ∨
       (fn_X7_restore sto dro fou told le sh rolls frm tk sr se hsz lk gs x1 = some (0, a, sto', dro', fou', told', le', sh', rolls', frm', tk', sr', se', 0) ∧ fn_X8_restore ref macts now kept isk x1 = some (a, 0, 0, now') ∧ SR2 sto' dro' fou' told' le' sh' rolls' frm' tk' sr' se' now')) := by
  unfold fn_X7_restore fn_X8_restore
  rw [slot_c, kbs, in_0_1, kbs]
  by_cases c : 0 ≤ x1 ∧ x1 ≤ 1
  · obtain ⟨k, hk, rfl⟩ := nat_of (n := 1) (by omega) c
    have hb : ¬ (nI k < 0 ∨ 2 ≤ k) := fun z => z.elim (ix_neg (by omega)) (by omega)
    have hkept : fn_X5_isKept lk (nI k) = some (if lk k = 0 then 0 else 1) := by
      unfold fn_X5_isKept
      rw [slot_c, kbs, if_pos c, if_neg n10, if_neg (nI_in (N := 2) (by omega) (by omega)), nI_clamp (by omega)]
      by_cases z : lk k = 0
      · rw [if_pos z, if_pos z]; rfl
      · rw [if_neg z, if_neg z]; rfl
    obtain ⟨g1, g2⟩ := hG k (by omega)
    rw [if_pos c, if_neg n10, if_neg n10, hkept, kbs, if_neg (nI_in (N := 2) (by omega) (by omega)), nI_clamp (by omega), ← g1]
    by_cases z : lk k = 0
    · refine ⟨0, 0, 0, 0, 0, 0, 0, le, le, le, le, le, le, Or.inr (Or.inl ⟨?_, ?_⟩)⟩
      · rw [if_pos z, if_pos rfl]
      · rw [if_pos z]
        unfold fn_X8_restore_29
        rw [refused_m, kbs, if_neg nl2, if_neg n10]
    · obtain ⟨le1, sh1, tk1, sr1, se1, e1, hc⟩ := copy_c3 (sto := sto) (dro := dro) (fou := fou) (told := told) (rolls := rolls) (frm := frm) (zsto := (gs k).1) (zdro := (gs k).2.1) (zfou := (gs k).2.2.1) (ztold := (gs k).2.2.2.1) (zrolls := (gs k).2.2.2.2.2.2.2.2.1) (zfrm := (gs k).2.2.2.2.2.2.2.2.2.1) (le := le) (sh := sh) (tk := tk) (sr := sr) (se := se) (zle := (gs k).2.2.2.2.2.2.1) (zsh := (gs k).2.2.2.2.2.2.2.1) (ztk := (gs k).2.2.2.2.2.2.2.2.2.2.1) (zsr := (gs k).2.2.2.2.2.2.2.2.2.2.2.1) (zse := (gs k).2.2.2.2.2.2.2.2.2.2.2.2)
      obtain ⟨now', e2, e3, -⟩ := copyState_eq (nf := 158) (ng := 79) (f := kept) (g := now) (79 * k) 0 (by omega) (by omega) (by omega) (by omega)
      have hS := (hc _ (g2 z)).row (r' := now') (fun i hi => by have := e3 i hi; rwa [Nat.zero_add] at this)
      have h51 : now' 51 = (gs k).2.2.2.2.2.2.2.2.1 := by
        obtain ⟨M, R, Fm, T, S, ⟨_, hP, hI, hC, hM, -⟩, -⟩ := hS
        rw [hM.1, hC.1]
      refine ⟨now' 51, _, _, _, _, _, _, _, _, _, _, _, now', Or.inr (Or.inr ⟨?_, ?_, hS⟩)⟩
      · rw [if_neg z, if_neg n10]
        unfold fn_X5_giveBack
        rw [hkept, kbs, if_neg z, if_neg n10, if_neg (nI_in (N := 2) (by omega) (by omega)), nI_clamp (by omega), e1, kbs]
        unfold fn_X5_giveBack_18 fn_X1_forget fn_X4_rolls
        rw [kbs, kbs, kbs, h51]
      · rw [if_neg z]
        unfold fn_X8_restore_29
        rw [refused_m, kbs, if_pos (Int32.le_refl _), if_pos rfl, show (79 : Int32) * nI k = nI (79 * k) from pk_mul 79 _, show fn_X8_copyState 158 79 kept now (nI (79 * k)) 0 = _ from e2, kbs]
  · refine ⟨0, 0, 0, 0, 0, 0, 0, le, le, le, le, le, le, Or.inl ⟨?_, ?_⟩⟩
    · rw [if_neg c, if_pos rfl]
    · rw [if_neg c, if_pos rfl]
      unfold fn_X8_restore_29
      rw [refused_m, kbs, if_neg nl1, if_neg n10]

section DO
variable {hsz hnx macts sto dro fou told rolls frm ref x1 x2 x3 x4 wl wr : Int32} {le sh tk sr se now diary side was : kF} {hs : Nat → kSt}
theorem sim_beginA_2 (hH : HR2 hsz hnx macts hs diary) (h : SR2 sto dro fou told le sh rolls frm tk sr se now) :
    ∃ (a told' rolls' frm' hsz' hnx' macts' : Int32) (le' sh' now' diary' : kF) (hs' : Nat → kSt), fn_X7_begin sto dro fou told le sh rolls frm tk sr se hsz hnx hs = some (a, told', le', sh', rolls', frm', hsz', hnx', hs') ∧ fn_X8_begin ref macts now diary = some (a, 0, macts', now', diary') ∧ HR2 hsz' hnx' macts' hs' diary' ∧ SR2 sto dro fou told' le' sh' rolls' frm' tk sr se now' := by
  obtain ⟨hsz', hnx', macts', hs', diary', r1, r2, r3⟩ := sim_remember_2 hH h
  obtain ⟨p, le', sh', now', hp, b1, b2, b3⟩ := sim_begin_2 h
  refine ⟨nI p, 1023, 0, 0, hsz', hnx', macts', le', sh', now', diary', hs', ?_, ?_, r3, b3⟩
  · unfold fn_X7_begin
    rw [r1, kbs, b1, kbs]
  · unfold fn_X8_begin
    rw [r2, kbs, b2, kbs]
theorem sim_rollA_2 (hH : HR2 hsz hnx macts hs diary) (h : SR2 sto dro fou told le sh rolls frm tk sr se now) :
    ∃ (a sto' dro' fou' told' wl' wr' rolls' frm' hsz' hnx' macts' : Int32) (le' sh' tk' sr' now' diary' side' was' : kF) (hs' : Nat → kSt),
      ((fn_X7_roll sto dro fou told wl wr le sh rolls frm tk sr se hsz hnx hs x1 x2 x3 x4 = some (1, 0, sto, dro, fou, told, wl, wr, le, sh, rolls, frm, tk, sr, hsz, hnx, hs) ∧ fn_X8_roll ref macts now diary side was x1 x2 x3 x4 = some (0, 1, macts, now, diary, side, was)) ∨
       (fn_X7_roll sto dro fou told wl wr le sh rolls frm tk sr se hsz hnx hs x1 x2 x3 x4 = some (2, 0, sto, dro, fou, told, wl, wr, le, sh, rolls, frm, tk, sr, hsz, hnx, hs) ∧ fn_X8_roll ref macts now diary side was x1 x2 x3 x4 = some (0, 2, macts, now, diary, side, was)) ∨
       (fn_X7_roll sto dro fou told wl wr le sh rolls frm tk sr se hsz hnx hs x1 x2 x3 x4 = some (0, a, sto', dro', fou', told', wl', wr', le', sh', rolls', frm', tk', sr', hsz', hnx', hs') ∧ fn_X8_roll ref macts now diary side was x1 x2 x3 x4 = some (a, 0, macts', now', diary', side', was') ∧ HR2 hsz' hnx' macts' hs' diary' ∧ SR2 sto' dro' fou' told' le' sh' rolls' frm' tk' sr' se now' ∧ fn_X8_remember macts now diary = some (macts', diary'))) := by
  unfold fn_X7_roll fn_X8_roll fn_X8_roll_21 fn_X8_roll_40
  rw [ball_c, kbs, ball_m, kbs]
  by_cases c : (0 ≤ x1 ∧ x1 ≤ 40) ∧ (-2 ≤ x2 ∧ x2 ≤ 2)
  · rw [if_pos c, if_neg n10, if_neg n10, speed_c, kbs, in_1_30, kbs]
    by_cases d : 1 ≤ x3 ∧ x3 ≤ 30
    · obtain ⟨f, hf, hfe, h52⟩ := h.over
      rw [if_pos d, if_neg n10, if_neg n10, isOver_m hf h52, kbs]
      have hov : fn_X4_isOver frm = some (if f = 10 then 1 else 0) := by rw [hfe]; exact isOver_c hf
      rw [hov, kbs]
      by_cases e : f = 10
      · rw [if_pos e, if_neg n10, if_neg n10, refused_m, kbs, if_neg nl2, if_neg n10]
        exact ⟨0, sto, dro, fou, told, wl, wr, rolls, frm, hsz, hnx, macts, le, sh, tk, sr, now, diary, side, was, hs, Or.inr (Or.inl ⟨rfl, rfl⟩)⟩
      · obtain ⟨hsz', hnx', macts', hs', diary', r1, r2, r3⟩ := sim_remember_2 hH h
        obtain ⟨a, sto', dro', fou', told', wl', wr', rolls', frm', le', sh', tk', sr', side', was', r', k1, k2, k3⟩ := sim_bowl_2 (x1 := x1) (x2 := x2) (x3 := x3) (x4 := x4) (wl := wl) (wr := wr) (side := side) (was := was) h (by rw [hfe]; exact frm_lt hf e) (Int32.not_lt.mpr d.1)
        rw [if_neg e, if_pos rfl, if_pos rfl, r1, kbs, k1, kbs, refused_m, kbs, if_pos (Int32.le_refl _), if_pos rfl, r2, kbs, k2, kbs]
        exact ⟨a, sto', dro', fou', told', wl', wr', rolls', frm', hsz', hnx', macts', le', sh', tk', sr', r', diary', side', was', hs', Or.inr (Or.inr ⟨rfl, rfl, r3, k3, rfl⟩)⟩
    · rw [if_neg d, if_pos rfl, if_pos rfl, refused_m, kbs, if_neg nl1, if_neg n10]
      exact ⟨0, sto, dro, fou, told, wl, wr, rolls, frm, hsz, hnx, macts, le, sh, tk, sr, now, diary, side, was, hs, Or.inl ⟨rfl, rfl⟩⟩
  · rw [if_neg c, if_pos rfl, if_pos rfl, refused_m, kbs, if_neg nl1, if_neg n10]
    exact ⟨0, sto, dro, fou, told, wl, wr, rolls, frm, hsz, hnx, macts, le, sh, tk, sr, now, diary, side, was, hs, Or.inl ⟨rfl, rfl⟩⟩
theorem sim_touchA_2 (hH : HR2 hsz hnx macts hs diary) (h : SR2 sto dro fou told le sh rolls frm tk sr se now) :
    ∃ (a hsz' hnx' macts' : Int32) (le' now' diary' : kF) (hs' : Nat → kSt),
      ((fn_X7_touch sto dro fou told le sh rolls frm tk sr se hsz hnx hs x1 x2 = some (3, 0, le, hsz, hnx, hs) ∧ fn_X8_touch ref macts now diary x1 x2 = some (0, 1, macts, now, diary)) ∨
       (fn_X7_touch sto dro fou told le sh rolls frm tk sr se hsz hnx hs x1 x2 = some (1, 0, le, hsz, hnx, hs) ∧ fn_X8_touch ref macts now diary x1 x2 = some (0, 2, macts, now, diary)) ∨
       (fn_X7_touch sto dro fou told le sh rolls frm tk sr se hsz hnx hs x1 x2 = some (2, 0, le, hsz, hnx, hs) ∧ fn_X8_touch ref macts now diary x1 x2 = some (0, 3, macts, now, diary)) ∨
       (fn_X7_touch sto dro fou told le sh rolls frm tk sr se hsz hnx hs x1 x2 = some (0, a, le', hsz', hnx', hs') ∧ fn_X8_touch ref macts now diary x1 x2 = some (a, 0, macts', now', diary') ∧ HR2 hsz' hnx' macts' hs' diary' ∧ SR2 sto dro fou told le' sh rolls frm tk sr se now')) := by
  have nl3 : ¬ (3 : Int32) ≤ 0 := by decide
  unfold fn_X7_touch fn_X8_touch fn_X8_touch_45
  rw [pin_c, kbs, pin_m, kbs]
  by_cases c : 0 ≤ x1 ∧ x1 ≤ 9
  · obtain ⟨k, hk, rfl⟩ := nat_of (n := 9) (by omega) c
    have hk10 : k < 10 := by omega
    have hl := h.lv hk10
    rw [if_pos c, if_neg n10, if_neg n10, lean3_c, kbs, in_0_3, kbs]
    by_cases d : 0 ≤ x2 ∧ x2 ≤ 3
    · rw [if_pos d, if_neg n10, if_neg n10, isUp_c hk10, kbs, ix_add0, if_neg (nI_in (N := 79) (by omega) (by omega)), nI_clamp (by omega), hl.1]
      by_cases e : le k = 4
      · rw [if_pos e, if_pos ((le4_iff hl.2.2.1).mpr e), if_pos rfl, refused_m, kbs, if_neg nl3, if_neg n10]
        exact ⟨0, hsz, hnx, macts, le, now, diary, hs, Or.inr (Or.inr (Or.inl ⟨rfl, rfl⟩))⟩
      · have e' : ¬ (4 : Int32) ≤ le k := fun z => e ((le4_iff hl.2.2.1).mp z)
        obtain ⟨hsz', hnx', macts', hs', diary', r1, r2, r3⟩ := sim_remember_2 hH h
        rw [if_neg e, if_neg e', if_neg n10, r1, kbs, makeLean_c hk10 e', kbs, refused_m, kbs, if_pos (Int32.le_refl _), if_pos rfl, r2, kbs, touchOn_m hk10, kbs, hl.1]
        exact ⟨le k, hsz', hnx', macts', upd le k x2, upd now k x2, diary', hs', Or.inr (Or.inr (Or.inr ⟨rfl, rfl, r3, h.touch hk10 d⟩))⟩
    · rw [if_neg d, if_pos rfl, if_pos rfl, refused_m, kbs, if_neg nl2, if_neg n10]
      exact ⟨0, hsz, hnx, macts, le, now, diary, hs, Or.inr (Or.inl ⟨rfl, rfl⟩)⟩
  · rw [if_neg c, if_pos rfl, if_pos rfl, refused_m, kbs, if_neg nl1, if_neg n10]
    exact ⟨0, hsz, hnx, macts, le, now, diary, hs, Or.inl ⟨rfl, rfl⟩⟩
theorem sim_setA_2 (hH : HR2 hsz hnx macts hs diary) (h : SR2 sto dro fou told le sh rolls frm tk sr se now) :
    ∃ (a hsz' hnx' macts' : Int32) (se' now' diary' : kF) (hs' : Nat → kSt),
      ((fn_X7_set sto dro fou told le sh rolls frm tk sr se hsz hnx hs x1 x2 = some (1, 0, se, hsz, hnx, hs) ∧ fn_X8_set ref macts now diary x1 x2 = some (0, 1, macts, now, diary)) ∨
       (fn_X7_set sto dro fou told le sh rolls frm tk sr se hsz hnx hs x1 x2 = some (0, a, se', hsz', hnx', hs') ∧ fn_X8_set ref macts now diary x1 x2 = some (a, 0, macts', now', diary') ∧ HR2 hsz' hnx' macts' hs' diary' ∧ SR2 sto dro fou told le sh rolls frm tk sr se' now')) := by
  have hbad : fn_X8_set_14 ref macts now diary x1 x2 1 = some (0, 1, macts, now, diary) := by
    unfold fn_X8_set_14
    rw [refused_m, kbs, if_neg nl1, if_neg n10]
  unfold fn_X7_set fn_X7_set_15 fn_X8_set
  rw [setting_c, kbs]
  by_cases c : 0 ≤ x1 ∧ x1 ≤ 2
  · obtain ⟨i, hi, rfl⟩ := nat_of (n := 2) (by omega) c
    have hi3 : i < 3 := by omega
    have hz : nI i = 0 ↔ i = 0 := nI_eq0 (by omega)
    rw [if_pos c, if_neg n10, value_c, kbs]
    by_cases v : (if i = 0 then 3 ≤ x2 ∧ x2 ≤ 90 else 0 ≤ x2 ∧ x2 ≤ 3)
    · have v1 : (if nI i = 0 then (if 3 ≤ x2 ∧ x2 ≤ 90 then (1 : Int32) else 0) else if 0 ≤ x2 ∧ x2 ≤ 3 then 1 else 0) = 1 := by
        by_cases c0 : i = 0
        · rw [if_pos c0] at v; rw [if_pos (hz.mpr c0), if_pos v]
        · rw [if_neg c0] at v; rw [if_neg (fun z => c0 (hz.mp z)), if_pos v]
      have v2 : (if nI i = 0 then 3 ≤ x2 ∧ x2 ≤ 90 else 0 ≤ x2 ∧ x2 ≤ 3) := by
        by_cases c0 : i = 0
        · rw [if_pos c0] at v; rw [if_pos (hz.mpr c0)]; exact v
        · rw [if_neg c0] at v; rw [if_neg (fun z => c0 (hz.mp z))]; exact v
      obtain ⟨hsz', hnx', macts', hs', diary', r1, r2, r3⟩ := sim_remember_2 hH h
      rw [v1, if_neg n10, r1, kbs, change_c hi3, kbs, (setting_m _ _).trans (congrArg some (if_pos ⟨c, v2⟩)), kbs, if_neg n10]
      unfold fn_X8_set_14
      rw [refused_m, kbs, if_pos (Int32.le_refl _), if_pos rfl, r2, kbs, show (76 : Int32) = nI 76 from rfl, ix_add, if_neg (nI_in (N := 79) (by omega) (by omega)), if_neg (nI_in (N := 79) (by omega) (by omega)), nI_clamp (by omega), h.se hi3]
      exact ⟨se i, hsz', hnx', macts', upd se i x2, upd now (76 + i) x2, diary', hs', Or.inr ⟨rfl, rfl, r3, h.set hi3 v⟩⟩
    · have v1 : (if nI i = 0 then (if 3 ≤ x2 ∧ x2 ≤ 90 then (1 : Int32) else 0) else if 0 ≤ x2 ∧ x2 ≤ 3 then 1 else 0) = 0 := by
        by_cases c0 : i = 0
        · rw [if_pos c0] at v; rw [if_pos (hz.mpr c0), if_neg v]
        · rw [if_neg c0] at v; rw [if_neg (fun z => c0 (hz.mp z)), if_neg v]
      have v2 : ¬ (if nI i = 0 then 3 ≤ x2 ∧ x2 ≤ 90 else 0 ≤ x2 ∧ x2 ≤ 3) := by
        by_cases c0 : i = 0
        · rw [if_pos c0] at v; rw [if_pos (hz.mpr c0)]; exact v
        · rw [if_neg c0] at v; rw [if_neg (fun z => c0 (hz.mp z))]; exact v
      rw [v1, if_pos rfl, (setting_m _ _).trans (congrArg some (if_neg (fun z => v2 z.2))), kbs, if_pos rfl, hbad]
      exact ⟨0, hsz, hnx, macts, se, now, diary, hs, Or.inl ⟨rfl, rfl⟩⟩
  · rw [if_neg c, if_pos rfl, (setting_m _ _).trans (congrArg some (if_neg (fun z => c z.1))), kbs, if_pos rfl, hbad]
    exact ⟨0, hsz, hnx, macts, se, now, diary, hs, Or.inl ⟨rfl, rfl⟩⟩
end DO
