/-! states laid over -/
theorem copyState_loop {nf ng a b : Nat} {f g0 : kF} (ha : a + 79 ≤ nf) (hb : b + 79 ≤ ng) (hnf : nf < 2 ^ 31) (hng : ng < 2 ^ 31) : ∀ (d k q : Nat) (g : kF), k + d = 79 → d < q → (∀ j, j < k → g (b + j) = f (a + j)) → (∀ i, (i < b ∨ b + 79 ≤ i) → g i = g0 i) → ∃ g', fn_X8_copyState_3 nf ng q f g (nI a) (nI b) (nI k) = some g' ∧ (∀ j, j < 79 → g' (b + j) = f (a + j)) ∧ ∀ i, (i < b ∨ b + 79 ≤ i) → g' i = g0 i := by
  intro d
  induction d with
  | zero =>
    intro k q g hk hq h1 h2
    obtain ⟨q, rfl⟩ : ∃ z, q = z + 1 := ⟨q - 1, by omega⟩
    have hk : k = 79 := by omega
    subst hk
    exact ⟨g, rfl, h1, h2⟩
  | succ d ih =>
    intro k q g hk hq h1 h2
    obtain ⟨q, rfl⟩ : ∃ z, q = z + 1 := ⟨q - 1, by omega⟩
    obtain ⟨g', e, e1, e2⟩ := ih (k + 1) q (upd g (b + k) (f (a + k))) (by omega) (by omega) (fun j hj => by
      by_cases c : j = k
      · subst c; exact upd_self
      · rw [upd_ne (by omega)]; exact h1 j (by omega)) (fun i hi => by rw [upd_ne (by omega)]; exact h2 i hi)
    refine ⟨g', ?_, e1, e2⟩
    rw [← e]
    show (if _ then _ else _) = _
    rw [if_neg (show ¬ (79 : Int32) ≤ nI k from ix_ge (n := 79) (by omega) (by omega)), ix_add, ix_add, if_neg (nI_in (N := nf) (by omega) (by omega)), if_neg (nI_in (N := ng) (by omega) (by omega)), nI_clamp (by omega), nI_clamp (by omega), nI_1]
theorem copyState_eq {nf ng : Nat} {f g : kF} (a b : Nat) (ha : a + 79 ≤ nf) (hb : b + 79 ≤ ng) (hnf : nf < 2 ^ 31) (hng : ng < 2 ^ 31) : ∃ g', fn_X8_copyState nf ng f g (nI a) (nI b) = some g' ∧ (∀ j, j < 79 → g' (b + j) = f (a + j)) ∧ ∀ i, (i < b ∨ b + 79 ≤ i) → g' i = g i :=
  copyState_loop ha hb hnf hng 79 0 4096 g (by omega) (by omega) (fun j hj => absurd hj (Nat.not_lt_zero j)) (fun _ _ => rfl)
theorem copyState_0 {f g : kF} : ∃ g', fn_X8_copyState 79 79 f g 0 0 = some g' ∧ ∀ j, j < 79 → g' j = f j := by
  obtain ⟨g', e, e1, -⟩ := copyState_eq (nf := 79) (ng := 79) (f := f) (g := g) 0 0 (by omega) (by omega) (by omega) (by omega)
  exact ⟨g', e, fun j hj => by have := e1 j hj; rwa [Nat.zero_add] at this⟩
-- rows and states alike where they count
theorem SREL.row {sto dro fou told rolls frm : Int32} {le sh tk sr se r r' : kF} (h : SREL sto dro fou told le sh rolls frm tk sr se r) (hk : ∀ i, i < 79 → r' i = r i) : SREL sto dro fou told le sh rolls frm tk sr se r' := by
  obtain ⟨M, R, Fm, T, S, h1, hP, hI, hC, hM, ⟨a1, a2, a3, a4, a5, a6⟩, hS⟩ := h
  exact ⟨M, R, Fm, T, S, h1, hP.keep (fun i hi => hk i (by omega)), hI, hC, hM.keep (R_le hI) (fun i _ hi => hk i (by omega)), ⟨(hk 73 (by omega)).trans a1, (hk 74 (by omega)).trans a2, (hk 75 (by omega)).trans a3, (hk 76 (by omega)).trans a4, (hk 77 (by omega)).trans a5, (hk 78 (by omega)).trans a6⟩, hS⟩
theorem SREL.cls {sto dro fou told rolls frm : Int32} {le sh tk sr se le' sh' tk' sr' se' r : kF} (h : SREL sto dro fou told le sh rolls frm tk sr se r) (h1 : ∀ i, i < 10 → le' i = le i ∧ sh' i = sh i) (h2 : ∀ i, i < 21 → tk' i = tk i) (h3 : ∀ i, i < 11 → sr' i = sr i) (h4 : ∀ i, i < 3 → se' i = se i) : SREL sto dro fou told le' sh' rolls frm tk' sr' se' r := by
  obtain ⟨M, R, Fm, T, S, e1, hP, hI, hC, hM, ⟨a1, a2, a3, a4, a5, a6⟩, hS⟩ := h
  have hR := R_le hI
  have hF := hI.1
  refine ⟨M, R, Fm, T, S, e1, ⟨hP.1, fun k hk => ?_, hP.2.2.1, fun k hk hb => ?_⟩, hI, ⟨hC.1, hC.2.1, fun i hi => ?_, fun f hf => ?_⟩, hM, ⟨a1, a2, a3, ?_, ?_, ?_⟩, ?_, ?_⟩
  · rw [(h1 k hk).1, (h1 k hk).2]; exact hP.2.1 k hk
  · rw [(h1 k hk).1]; exact hP.2.2.2 k hk hb
  · rw [h2 i (by omega)]; exact hC.2.2.1 i hi
  · rw [h3 f (by omega)]; exact hC.2.2.2 f hf
  · rw [h4 0 (by omega)]; exact a4
  · rw [h4 1 (by omega)]; exact a5
  · rw [h4 2 (by omega)]; exact a6
  · rw [h4 0 (by omega)]; exact hS.1
  · rw [h4 1 (by omega)]; exact hS.2
-- the class's copies
theorem copyPins_loop {told ztold : Int32} {zle zsh : kF} : ∀ (d k q : Nat) (le sh : kF), k + d = 10 → d < q → (∀ j, j < k → le j = zle j ∧ sh j = zsh j) → ∃ le' sh', fn_X2_copyFrom_2 q told le sh ztold zle zsh (nI k) = some (ztold, le', sh') ∧ ∀ j, j < 10 → le' j = zle j ∧ sh' j = zsh j := by
  intro d
  induction d with
  | zero =>
    intro k q le sh hk hq h1
    obtain ⟨q, rfl⟩ : ∃ z, q = z + 1 := ⟨q - 1, by omega⟩
    have hk : k = 10 := by omega
    subst hk
    exact ⟨le, sh, rfl, h1⟩
  | succ d ih =>
    intro k q le sh hk hq h1
    obtain ⟨q, rfl⟩ : ∃ z, q = z + 1 := ⟨q - 1, by omega⟩
    obtain ⟨le', sh', e, e1⟩ := ih (k + 1) q (upd le k (zle k)) (upd sh k (zsh k)) (by omega) (by omega) (fun j hj => by
      by_cases c : j = k
      · subst c; exact ⟨upd_self, upd_self⟩
      · rw [upd_ne c, upd_ne c]; exact h1 j (by omega))
    refine ⟨le', sh', ?_, e1⟩
    rw [← e]
    show (if _ then _ else _) = _
    rw [if_neg (show ¬ (10 : Int32) ≤ nI k from ix_ge (n := 10) (by omega) (by omega))]
    simp only [if_neg (nI_in (c := k) (N := 10) (by omega) (by omega))]
    rw [nI_clamp (by omega), nI_1]
theorem copyPins {told ztold : Int32} {le sh zle zsh : kF} : ∃ le' sh', fn_X2_copyFrom told le sh ztold zle zsh = some (ztold, le', sh') ∧ ∀ j, j < 10 → le' j = zle j ∧ sh' j = zsh j :=
  copyPins_loop 10 0 4096 le sh (by omega) (by omega) (fun j hj => absurd hj (Nat.not_lt_zero j))
theorem copySr_loop {rolls frm zrolls zfrm : Int32} {tk ztk zsr : kF} : ∀ (d k q : Nat) (sr : kF), k + d = 11 → d < q → (∀ j, j < k → sr j = zsr j) → ∃ sr', fn_X4_copyFrom_28 q rolls frm tk sr zrolls zfrm ztk zsr (nI k) = some (zrolls, zfrm, tk, sr') ∧ ∀ j, j < 11 → sr' j = zsr j := by
  intro d
  induction d with
  | zero =>
    intro k q sr hk hq h1
    obtain ⟨q, rfl⟩ : ∃ z, q = z + 1 := ⟨q - 1, by omega⟩
    have hk : k = 11 := by omega
    subst hk
    exact ⟨sr, rfl, h1⟩
  | succ d ih =>
    intro k q sr hk hq h1
    obtain ⟨q, rfl⟩ : ∃ z, q = z + 1 := ⟨q - 1, by omega⟩
    obtain ⟨sr', e, e1⟩ := ih (k + 1) q (upd sr k (zsr k)) (by omega) (by omega) (fun j hj => by
      by_cases c : j = k
      · subst c; exact upd_self
      · rw [upd_ne c]; exact h1 j (by omega))
    refine ⟨sr', ?_, e1⟩
    rw [← e]
    show (if _ then _ else _) = _
    rw [if_neg (show ¬ (10 : Int32) < nI k from nI_nlt (a := 10) (by omega) (by omega))]
    simp only [if_neg (nI_in (c := k) (N := 11) (by omega) (by omega))]
    rw [nI_clamp (by omega), nI_1]
theorem copyTk_loop {rolls frm zrolls zfrm : Int32} {sr ztk zsr : kF} : ∀ (d k q : Nat) (tk : kF), k + d = 21 → d < q → (∀ j, j < k → tk j = ztk j) → ∃ tk' sr', fn_X4_copyFrom_2 q rolls frm tk sr zrolls zfrm ztk zsr (nI k) = some (zrolls, zfrm, tk', sr') ∧ (∀ j, j < 21 → tk' j = ztk j) ∧ ∀ j, j < 11 → sr' j = zsr j := by
  intro d
  induction d with
  | zero =>
    intro k q tk hk hq h1
    obtain ⟨q, rfl⟩ : ∃ z, q = z + 1 := ⟨q - 1, by omega⟩
    have hk : k = 21 := by omega
    subst hk
    obtain ⟨sr', e, e1⟩ := copySr_loop (rolls := rolls) (frm := frm) (zrolls := zrolls) (zfrm := zfrm) (tk := tk) (ztk := ztk) (zsr := zsr) 11 0 4096 sr (by omega) (by omega) (fun j hj => absurd hj (Nat.not_lt_zero j))
    refine ⟨tk, sr', ?_, h1, e1⟩
    rw [← e]
    show (if (21 : Int32) ≤ nI 21 then _ else _) = _
    rw [if_pos (show (21 : Int32) ≤ nI 21 from Int32.le_refl _), show (0 : Int32) = nI 0 from rfl]
  | succ d ih =>
    intro k q tk hk hq h1
    obtain ⟨q, rfl⟩ : ∃ z, q = z + 1 := ⟨q - 1, by omega⟩
    obtain ⟨tk', sr', e, e1, e2⟩ := ih (k + 1) q (upd tk k (ztk k)) (by omega) (by omega) (fun j hj => by
      by_cases c : j = k
      · subst c; exact upd_self
      · rw [upd_ne c]; exact h1 j (by omega))
    refine ⟨tk', sr', ?_, e1, e2⟩
    rw [← e]
    show (if _ then _ else _) = _
    rw [if_neg (show ¬ (21 : Int32) ≤ nI k from ix_ge (n := 21) (by omega) (by omega))]
    simp only [if_neg (nI_in (c := k) (N := 21) (by omega) (by omega))]
    rw [nI_clamp (by omega), nI_1]
theorem copySe_loop {sto dro fou told rolls frm zsto zdro zfou ztold zrolls zfrm : Int32} {le sh tk sr zle zsh ztk zsr zse : kF} : ∀ (d k q : Nat) (se : kF), k + d = 3 → d < q → (∀ j, j < k → se j = zse j) → ∃ se', fn_X6_copyFrom_24 q sto dro fou told le sh rolls frm tk sr se zsto zdro zfou ztold zle zsh zrolls zfrm ztk zsr zse (nI k) = some (zsto, zdro, zfou, told, le, sh, rolls, frm, tk, sr, se') ∧ ∀ j, j < 3 → se' j = zse j := by
  intro d
  induction d with
  | zero =>
    intro k q se hk hq h1
    obtain ⟨q, rfl⟩ : ∃ z, q = z + 1 := ⟨q - 1, by omega⟩
    have hk : k = 3 := by omega
    subst hk
    exact ⟨se, rfl, h1⟩
  | succ d ih =>
    intro k q se hk hq h1
    obtain ⟨q, rfl⟩ : ∃ z, q = z + 1 := ⟨q - 1, by omega⟩
    obtain ⟨se', e, e1⟩ := ih (k + 1) q (upd se k (zse k)) (by omega) (by omega) (fun j hj => by
      by_cases c : j = k
      · subst c; exact upd_self
      · rw [upd_ne c]; exact h1 j (by omega))
    refine ⟨se', ?_, e1⟩
    rw [← e]
    show (if _ then _ else _) = _
    rw [if_neg (show ¬ (3 : Int32) ≤ nI k from ix_ge (n := 3) (by omega) (by omega))]
    simp only [if_neg (nI_in (c := k) (N := 3) (by omega) (by omega))]
    rw [nI_clamp (by omega), nI_1]
/-- one state laid over another: it answers as the other does -/
theorem copy_c {sto dro fou told rolls frm zsto zdro zfou ztold zrolls zfrm : Int32} {le sh tk sr se zle zsh ztk zsr zse : kF} : ∃ le' sh' tk' sr' se', fn_X6_copyFrom sto dro fou told le sh rolls frm tk sr se zsto zdro zfou ztold zle zsh zrolls zfrm ztk zsr zse = some (zsto, zdro, zfou, ztold, le', sh', zrolls, zfrm, tk', sr', se') ∧ ∀ r, SREL zsto zdro zfou ztold zle zsh zrolls zfrm ztk zsr zse r → SREL zsto zdro zfou ztold le' sh' zrolls zfrm tk' sr' se' r := by
  obtain ⟨le', sh', e1, h1⟩ := copyPins (told := told) (ztold := ztold) (le := le) (sh := sh) (zle := zle) (zsh := zsh)
  obtain ⟨tk', sr', e2, h2, h3⟩ := copyTk_loop (rolls := rolls) (frm := frm) (zrolls := zrolls) (zfrm := zfrm) (sr := sr) (ztk := ztk) (zsr := zsr) 21 0 4096 tk (by omega) (by omega) (fun j hj => absurd hj (Nat.not_lt_zero j))
  obtain ⟨se', e3, h4⟩ := copySe_loop (sto := sto) (dro := dro) (fou := fou) (told := ztold) (rolls := zrolls) (frm := zfrm) (zsto := zsto) (zdro := zdro) (zfou := zfou) (ztold := ztold) (zrolls := zrolls) (zfrm := zfrm) (le := le') (sh := sh') (tk := tk') (sr := sr') (zle := zle) (zsh := zsh) (ztk := ztk) (zsr := zsr) (zse := zse) 3 0 4096 se (by omega) (by omega) (fun j hj => absurd hj (Nat.not_lt_zero j))
  refine ⟨le', sh', tk', sr', se', ?_, fun r h => h.cls h1 h2 h3 h4⟩
  unfold fn_X6_copyFrom
  rw [e1, kbs, show fn_X4_copyFrom rolls frm tk sr zrolls zfrm ztk zsr = _ from e2, kbs]
  exact e3
