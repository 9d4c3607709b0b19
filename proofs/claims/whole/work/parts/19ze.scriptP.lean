/-! whole scripts: class and reference -/
theorem in_64 {x lo hi : Int64} : fn_X8_in x lo hi = some (if lo ≤ x ∧ x ≤ hi then 1 else 0) := by
  unfold fn_X8_in
  by_cases h1 : x < lo
  · rw [if_pos (lcmp_lt.mpr h1), if_neg (fun h => Int64.not_le.mpr h1 h.1)]
    rfl
  · rw [if_neg (fun h => h1 (lcmp_lt.mp h))]
    by_cases h2 : hi < x
    · rw [if_pos (lcmp_gt.mpr h2), if_neg (fun h => Int64.not_le.mpr h2 h.2)]
      rfl
    · rw [if_neg (fun h => h2 (lcmp_gt.mp h)), if_pos ⟨Int64.not_lt.mp h1, Int64.not_lt.mp h2⟩]
      rfl
theorem u_mul {k : Nat} (h : k < 3) : lN (100000 ^ k) * (100000 : Int64) = lN (100000 ^ (k + 1)) := by
  rcases (show k = 0 ∨ k = 1 ∨ k = 2 by omega) with e | e | e <;> subst e <;> decide
theorem u_div {k : Nat} (h : k < 3) : lN (100000 ^ (k + 1)) / (100000 : Int64) = lN (100000 ^ k) := by
  rcases (show k = 0 ∨ k = 1 ∨ k = 2 by omega) with e | e | e <;> subst e <;> decide
theorem u_sub {k : Nat} (h : k < 4) : lN (100000 ^ k) - (1 : Int64) = lN (100000 ^ k - 1) := by
  rcases (show k = 0 ∨ k = 1 ∨ k = 2 ∨ k = 3 by omega) with e | e | e | e <;> subst e <;> decide
theorem u_ne {k : Nat} (h : k < 4) : lN (100000 ^ k) ≠ 0 := by
  rcases (show k = 0 ∨ k = 1 ∨ k = 2 ∨ k = 3 by omega) with e | e | e | e <;> subst e <;> decide
theorem u_c {k : Nat} (h : k < 4) : fn_X3_unitOf (nI k) = some (lN (100000 ^ k)) := by
  rcases (show k = 0 ∨ k = 1 ∨ k = 2 ∨ k = 3 by omega) with e | e | e | e <;> subst e <;> decide
theorem u_bd {k : Nat} (h : k < 4) : 0 < 100000 ^ k ∧ 100000 ^ k < 2 ^ 63 := by
  rcases (show k = 0 ∨ k = 1 ∨ k = 2 ∨ k = 3 by omega) with e | e | e | e <;> subst e <;> decide
/-- the number of a command in a script -/
theorem cmdno {v k : Nat} (hv : v < 2 ^ 63) (h : k < 4) : (lN v / lN (100000 ^ k) - lN v / lN (100000 ^ k) / (100000 : Int64) * (100000 : Int64)).toInt32 = nI (v / 100000 ^ k % 100000) := by
  obtain ⟨h0, h1⟩ := u_bd h
  rw [pk_lDiv hv h0 h1, show lN (v / 100000 ^ k) - lN (v / 100000 ^ k) / (100000 : Int64) * (100000 : Int64) = lN (v / 100000 ^ k % 100000) from pk_lRem (b := 100000) (Nat.lt_of_le_of_lt (Nat.div_le_self _ _) hv) (by omega) (by omega), lN_i]
theorem script_loop {nsto ndro nfou ntold nrolls nfrm ref : Int32} {nle nsh ntk nsr nse now : kF} {N v : Nat} (hN : N < 4) (hv : v < 2 ^ 63) : ∀ (d k q q' : Nat) (sto dro fou told rolls frm wl wr : Int32) (le sh tk sr se r side was : kF), k + d = N → d < q → d < q' → SREL sto dro fou told le sh rolls frm tk sr se r →
    ∃ (a sto' dro' fou' told' wl' wr' rolls' frm' : Int32) (le' sh' tk' sr' se' side' was' r' : kF), fn_X7_runScript_61 q nsto ndro nfou ntold nle nsh nrolls nfrm ntk nsr nse sto dro fou told wl wr le sh rolls frm tk sr se (nI N) (lN v) (nI k) = some (0, a, sto', dro', fou', told', wl', wr', le', sh', rolls', frm', tk', sr', se') ∧
      fn_X8_runScript_86 q' ref now r side was (nI N) (lN v) (lN (100000 ^ d)) (nI k) = some (a, ref, r', side', was') := by
  intro d
  induction d with
  | zero =>
    intro k q q' sto dro fou told rolls frm wl wr le sh tk sr se r side was hk hq hq' h
    obtain ⟨q, rfl⟩ : ∃ z, q = z + 1 := ⟨q - 1, by omega⟩
    obtain ⟨q', rfl⟩ : ∃ z, q' = z + 1 := ⟨q' - 1, by omega⟩
    have hk : k = N := by omega
    subst hk
    refine ⟨-1, sto, dro, fou, told, wl, wr, rolls, frm, le, sh, tk, sr, se, side, was, r, ?_, ?_⟩
    · show (if nI k ≤ nI k then _ else _) = _
      rw [if_pos (Int32.le_refl _)]
    · show (if nI k ≤ nI k then _ else _) = _
      rw [if_pos (Int32.le_refl _)]
  | succ d ih =>
    intro k q q' sto dro fou told rolls frm wl wr le sh tk sr se r side was hk hq hq' h
    obtain ⟨q, rfl⟩ : ∃ z, q = z + 1 := ⟨q - 1, by omega⟩
    obtain ⟨q', rfl⟩ : ∃ z, q' = z + 1 := ⟨q' - 1, by omega⟩
    have hn : v / 100000 ^ d % 100000 < 100000 := Nat.mod_lt _ (by omega)
    have e1 : nI N - (1 : Int32) - nI k = nI d := by
      rw [show nI N - (1 : Int32) = nI (N - 1) from pk_sub (b := 1) (by omega), pk_sub (by omega)]
      congr 1
      omega
    obtain ⟨code, sto', dro', fou', told', wl', wr', rolls', frm', le', sh', tk', sr', se', side', was', r', k1, k2, k3⟩ := sim_cmd (wl := wl) (wr := wr) (side := side) (was := was) hn h
    have q1 : nI (v / 100000 ^ d % 100000) / (10000 : Int32) = nI (v / 100000 ^ d % 100000 / 10000) := dg_q _ 10000 (by omega) (by omega) (by omega)
    have q2 : nI (v / 100000 ^ d % 100000) - nI (v / 100000 ^ d % 100000 / 10000) * (10000 : Int32) = nI (v / 100000 ^ d % 100000 % 10000) := dg_r _ 10000 (by omega) (by omega) (by omega)
    rcases k3 with rfl | ⟨rfl, k3⟩
    · refine ⟨nI k, sto', dro', fou', told', wl', wr', rolls', frm', le', sh', tk', sr', se', side', was', r', ?_, ?_⟩
      · show (if nI N ≤ nI k then _ else (fn_X3_unitOf (nI N - (1 : Int32) - nI k)).bind _) = _
        rw [if_neg (nI_ge (by omega) (by omega)), e1, u_c (by omega), kbs, if_neg (u_ne (by omega)), cmdno hv (by omega), k1, kbs, if_pos rfl]
      · show (if nI N ≤ nI k then _ else if lN (100000 ^ (d + 1)) / (100000 : Int64) = 0 then _ else _) = _
        rw [if_neg (nI_ge (by omega) (by omega)), u_div (by omega), if_neg (u_ne (by omega)), cmdno hv (by omega), q1, q2, k2, kbs, if_pos rfl]
    · obtain ⟨a, sto2, dro2, fou2, told2, wl2, wr2, rolls2, frm2, le2, sh2, tk2, sr2, se2, side2, was2, r2, g1, g2⟩ := ih (k + 1) q q' sto' dro' fou' told' rolls' frm' wl' wr' le' sh' tk' sr' se' r' side' was' (by omega) (by omega) (by omega) k3
      refine ⟨a, sto2, dro2, fou2, told2, wl2, wr2, rolls2, frm2, le2, sh2, tk2, sr2, se2, side2, was2, r2, ?_, ?_⟩
      · rw [← g1]
        show (if nI N ≤ nI k then _ else (fn_X3_unitOf (nI N - (1 : Int32) - nI k)).bind _) = _
        rw [if_neg (nI_ge (by omega) (by omega)), e1, u_c (by omega), kbs, if_neg (u_ne (by omega)), cmdno hv (by omega), k1, kbs, if_neg (show ¬ (1 : Int32) = 0 by decide), nI_1]
      · rw [← g2]
        show (if nI N ≤ nI k then _ else if lN (100000 ^ (d + 1)) / (100000 : Int64) = 0 then _ else _) = _
        rw [if_neg (nI_ge (by omega) (by omega)), u_div (by omega), if_neg (u_ne (by omega)), cmdno hv (by omega), q1, q2, k2, kbs, if_neg (show ¬ (1 : Int32) = 0 by decide), nI_1]
theorem unit_loop {ref : Int32} {now trial side was : kF} {x2 : Int64} {N : Nat} (hN : N < 4) : ∀ (d k q : Nat), k + d = N → d < q → fn_X8_runScript_6 q ref now trial side was (nI N) x2 (lN (100000 ^ k)) (nI k) = fn_X8_runScript_32 ref now trial side was (nI N) x2 (lN (100000 ^ N)) := by
  intro d
  induction d with
  | zero =>
    intro k q hk hq
    obtain ⟨q, rfl⟩ : ∃ z, q = z + 1 := ⟨q - 1, by omega⟩
    have hk : k = N := by omega
    subst hk
    show (if nI k ≤ nI k then _ else _) = _
    rw [if_pos (Int32.le_refl _)]
  | succ d ih =>
    intro k q hk hq
    obtain ⟨q, rfl⟩ : ∃ z, q = z + 1 := ⟨q - 1, by omega⟩
    rw [← ih (k + 1) q (by omega) (by omega)]
    show (if nI N ≤ nI k then _ else if (3 : Int32) ≤ nI k then _ else _) = _
    rw [if_neg (nI_ge (by omega) (by omega)), if_neg (show ¬ (3 : Int32) ≤ nI k from ix_ge (n := 3) (by omega) (by omega)), u_mul (by omega), nI_1]
theorem unit_any {ref x1 : Int32} {now trial side was : kF} {x2 : Int64} : ∀ (d k q : Nat) (x4 : Int64), k + d = 3 → d < q → ∃ x4', fn_X8_runScript_6 q ref now trial side was x1 x2 x4 (nI k) = fn_X8_runScript_32 ref now trial side was x1 x2 x4' := by
  intro d
  induction d with
  | zero =>
    intro k q x4 hk hq
    obtain ⟨q, rfl⟩ : ∃ z, q = z + 1 := ⟨q - 1, by omega⟩
    have hk : k = 3 := by omega
    subst hk
    refine ⟨x4, ?_⟩
    show (if x1 ≤ nI 3 then _ else if (3 : Int32) ≤ nI 3 then _ else _) = _
    rw [if_pos (show (3 : Int32) ≤ nI 3 from Int32.le_refl _)]
    split <;> rfl
  | succ d ih =>
    intro k q x4 hk hq
    obtain ⟨q, rfl⟩ : ∃ z, q = z + 1 := ⟨q - 1, by omega⟩
    by_cases c : x1 ≤ nI k
    · refine ⟨x4, ?_⟩
      show (if x1 ≤ nI k then _ else _) = _
      rw [if_pos c]
    · obtain ⟨x4', e⟩ := ih (k + 1) q (x4 * 100000) (by omega) (by omega)
      refine ⟨x4', ?_⟩
      rw [← e]
      show (if x1 ≤ nI k then _ else if (3 : Int32) ≤ nI k then _ else _) = _
      rw [if_neg c, if_neg (show ¬ (3 : Int32) ≤ nI k from ix_ge (n := 3) (by omega) (by omega)), nI_1]
theorem sim_script {nsto ndro nfou ntold nrolls nfrm ref tsto tdro tfou ttold trolls tfrm twl twr x1 : Int32} {x2 : Int64} {nle nsh ntk nsr nse now tle tsh ttk tsr tse trial side was : kF} (h : SREL nsto ndro nfou ntold nle nsh nrolls nfrm ntk nsr nse now) :
    ∃ (a sto' dro' fou' told' wl' wr' rolls' frm' : Int32) (le' sh' tk' sr' se' side' was' r' : kF),
      ((fn_X7_runScript nsto ndro nfou ntold nle nsh nrolls nfrm ntk nsr nse tsto tdro tfou ttold twl twr tle tsh trolls tfrm ttk tsr tse x1 x2 = some (1, 0, tsto, tdro, tfou, ttold, twl, twr, tle, tsh, trolls, tfrm, ttk, tsr, tse) ∧ fn_X8_runScript ref now trial side was x1 x2 = some (0, 1, trial, side, was)) ∨
       (fn_X7_runScript nsto ndro nfou ntold nle nsh nrolls nfrm ntk nsr nse tsto tdro tfou ttold twl twr tle tsh trolls tfrm ttk tsr tse x1 x2 = some (0, a, sto', dro', fou', told', wl', wr', le', sh', rolls', frm', tk', sr', se') ∧ fn_X8_runScript ref now trial side was x1 x2 = some (a, 0, r', side', was'))) := by
  have hbad : ∀ x4, fn_X8_runScript_61 ref now trial side was x1 x2 x4 = some (0, 1, trial, side, was) := by
    intro x4
    unfold fn_X8_runScript_61 fn_X8_runScript_62
    rw [refused_m, kbs, if_neg (show ¬ (1 : Int32) ≤ 0 by decide), if_neg (by decide)]
  by_cases c : 1 ≤ x1 ∧ x1 ≤ 3
  · obtain ⟨N, hN, rfl⟩ := nat_of (n := 3) (by omega) (⟨Int32.le_trans (by decide) c.1, c.2⟩ : 0 ≤ x1 ∧ x1 ≤ nI 3)
    have hm : fn_X8_runScript ref now trial side was (nI N) x2 = (if 0 ≤ x2 ∧ x2 ≤ lN (100000 ^ N) - 1 then fn_X8_runScript_62 ref now trial side was (nI N) x2 (lN (100000 ^ N)) 0 else fn_X8_runScript_61 ref now trial side was (nI N) x2 (lN (100000 ^ N))) := by
      have e := unit_loop (ref := ref) (now := now) (trial := trial) (side := side) (was := was) (x2 := x2) (N := N) (by omega) N 0 4096 (by omega) (by omega)
      have e0 : fn_X8_runScript ref now trial side was (nI N) x2 = fn_X8_runScript_32 ref now trial side was (nI N) x2 (lN (100000 ^ N)) := by
        unfold fn_X8_runScript
        exact e
      rw [e0]
      unfold fn_X8_runScript_32
      rw [in_1_3, kbs, if_pos c, if_neg (by decide), in_64, kbs]
      by_cases d : 0 ≤ x2 ∧ x2 ≤ lN (100000 ^ N) - 1
      · rw [if_pos d, if_pos d, if_neg (by decide)]
      · rw [if_neg d, if_neg d, if_pos rfl]
    have hc : fn_X7_runScript nsto ndro nfou ntold nle nsh nrolls nfrm ntk nsr nse tsto tdro tfou ttold twl twr tle tsh trolls tfrm ttk tsr tse (nI N) x2 = if x2 < 0 then fn_X7_runScript_36 nsto ndro nfou ntold nle nsh nrolls nfrm ntk nsr nse tsto tdro tfou ttold twl twr tle tsh trolls tfrm ttk tsr tse else if x2 < lN (100000 ^ N) then (fn_X6_copyFrom tsto tdro tfou ttold tle tsh trolls tfrm ttk tsr tse nsto ndro nfou ntold nle nsh nrolls nfrm ntk nsr nse).bind fun o55 => fn_X7_runScript_61 4096 nsto ndro nfou ntold nle nsh nrolls nfrm ntk nsr nse o55.1 o55.2.1 o55.2.2.1 o55.2.2.2.1 twl twr o55.2.2.2.2.1 o55.2.2.2.2.2.1 o55.2.2.2.2.2.2.1 o55.2.2.2.2.2.2.2.1 o55.2.2.2.2.2.2.2.2.1 o55.2.2.2.2.2.2.2.2.2.1 o55.2.2.2.2.2.2.2.2.2.2 (nI N) x2 (0 : Int32) else fn_X7_runScript_36 nsto ndro nfou ntold nle nsh nrolls nfrm ntk nsr nse tsto tdro tfou ttold twl twr tle tsh trolls tfrm ttk tsr tse := by
      unfold fn_X7_runScript
      rw [if_neg (Int32.not_lt.mpr c.1), if_pos c.2, u_c (by omega), kbs]
      simp only [lcmp_lt]
    by_cases cn : x2 < 0
    · refine ⟨0, 0, 0, 0, 0, 0, 0, 0, 0, side, side, side, side, side, side, side, side, Or.inl ⟨?_, ?_⟩⟩
      · rw [hc, if_pos cn]; rfl
      · rw [hm, if_neg (fun z => Int64.not_le.mpr cn z.1)]
        exact hbad _
    · obtain ⟨v, hv, rfl⟩ := pk_lOf cn
      obtain ⟨u0, u1⟩ := u_bd (k := N) (by omega)
      have hle : lN v ≤ lN (100000 ^ N) - 1 ↔ lN v < lN (100000 ^ N) := by
        rw [u_sub (by omega), pk_lLE hv (by omega), pk_lLT hv u1]
        omega
      by_cases cl : lN v < lN (100000 ^ N)
      · obtain ⟨le1, sh1, tk1, sr1, se1, e1, h1⟩ := copy_c (sto := tsto) (dro := tdro) (fou := tfou) (told := ttold) (rolls := trolls) (frm := tfrm) (zsto := nsto) (zdro := ndro) (zfou := nfou) (ztold := ntold) (zrolls := nrolls) (zfrm := nfrm) (le := tle) (sh := tsh) (tk := ttk) (sr := tsr) (se := tse) (zle := nle) (zsh := nsh) (ztk := ntk) (zsr := nsr) (zse := nse)
        obtain ⟨r1, e2, h2⟩ := copyState_0 (f := now) (g := trial)
        obtain ⟨a, sto', dro', fou', told', wl', wr', rolls', frm', le', sh', tk', sr', se', side', was', r', g1, g2⟩ := script_loop (nsto := nsto) (ndro := ndro) (nfou := nfou) (ntold := ntold) (nrolls := nrolls) (nfrm := nfrm) (ref := 0) (nle := nle) (nsh := nsh) (ntk := ntk) (nsr := nsr) (nse := nse) (now := now) (N := N) (v := v) (by omega) hv N 0 4096 4096 nsto ndro nfou ntold nrolls nfrm twl twr le1 sh1 tk1 sr1 se1 r1 side was (by omega) (by omega) (by omega) ((h1 now h).row h2)
        refine ⟨a, sto', dro', fou', told', wl', wr', rolls', frm', le', sh', tk', sr', se', side', was', r', Or.inr ⟨?_, ?_⟩⟩
        · rw [hc, if_neg cn, if_pos cl, e1, kbs]
          exact g1
        · rw [hm, if_pos ⟨Int64.not_lt.mp cn, hle.mpr cl⟩]
          unfold fn_X8_runScript_62
          rw [refused_m, kbs, if_pos (Int32.le_refl _), if_pos rfl, e2, kbs]
          exact g2
      · refine ⟨0, 0, 0, 0, 0, 0, 0, 0, 0, side, side, side, side, side, side, side, side, Or.inl ⟨?_, ?_⟩⟩
        · rw [hc, if_neg cn, if_neg cl]; rfl
        · rw [hm, if_neg (fun z => cl (hle.mp z.2))]
          exact hbad _
  · refine ⟨0, 0, 0, 0, 0, 0, 0, 0, 0, side, side, side, side, side, side, side, side, Or.inl ⟨?_, ?_⟩⟩
    · unfold fn_X7_runScript
      by_cases c1 : x1 < 1
      · rw [if_pos c1]; rfl
      · rw [if_neg c1, if_neg (fun z => c ⟨Int32.not_lt.mp c1, z⟩)]; rfl
    · obtain ⟨x4, e⟩ := unit_any (ref := ref) (x1 := x1) (now := now) (trial := trial) (side := side) (was := was) (x2 := x2) 3 0 4096 1 (by omega) (by omega)
      unfold fn_X8_runScript
      rw [show (0 : Int32) = nI 0 from rfl, e]
      unfold fn_X8_runScript_32
      rw [in_1_3, kbs, if_neg c, if_pos rfl]
      exact hbad _
