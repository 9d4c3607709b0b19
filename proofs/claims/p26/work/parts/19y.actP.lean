/-! touching, setting, beginning again: class and reference -/
theorem rng_1 {k n : Nat} (h : k ≤ n) (hn : n < 2 ^ 31) : (if 0 ≤ nI k ∧ nI k ≤ nI n then (1 : Int32) else 0) = 1 := if_pos ⟨nI_pos' (by omega), nI_le h hn⟩
theorem pin_k {k : Nat} (hk : k < 10) : fn_X7_isPin (nI k) = some 1 := (pin_c _).trans (congrArg some (rng_1 (n := 9) (by omega) (by omega)))
theorem setting_k {k : Nat} (hk : k < 3) : fn_X7_isSetting (nI k) = some 1 := (setting_c _).trans (congrArg some (rng_1 (n := 2) (by omega) (by omega)))
theorem isUp_x {le : kF} {k : Nat} (hk : k < 10) : fn_X2_isUp le (nI k) = some (if (4 : Int32) ≤ le k then 0 else 1) := isUp_c hk
theorem le4_iff {x : Int32} (h : lvok x) : (4 : Int32) ≤ x ↔ x = 4 := by
  rcases h with e | e | e | e | e <;> subst e <;> decide
theorem leaning_c {le : kF} {k : Nat} (hk : k < 10) : fn_X2_leaningOf le (nI k) = some (le k) := by
  unfold fn_X2_leaningOf
  rw [pin_k hk, kbs, if_neg (by decide), if_neg (nI_in (N := 10) hk (by omega)), nI_clamp (by omega)]
  rfl
theorem shiftOf_c {sh : kF} {k : Nat} (hk : k < 10) : fn_X2_shiftOf sh (nI k) = some (sh k) := by
  unfold fn_X2_shiftOf
  rw [pin_k hk, kbs, if_neg (by decide), if_neg (nI_in (N := 10) hk (by omega)), nI_clamp (by omega)]
  rfl
theorem makeLean_c {le : kF} {k : Nat} {v : Int32} (hk : k < 10) (h4 : ¬ (4 : Int32) ≤ le k) : fn_X2_makeLean le (nI k) v = some (le k, upd le k v) := by
  unfold fn_X2_makeLean
  rw [leaning_c hk, kbs, isUp_c hk, kbs, if_neg h4, if_neg (by decide), if_neg (nI_in (N := 10) hk (by omega)), nI_clamp (by omega)]
  rfl
theorem touchOn_m {r : kF} {k : Nat} {v : Int32} (hk : k < 10) : fn_X8_touchOn r (nI k) v = some (r k, upd r k v) := by
  unfold fn_X8_touchOn
  rw [ix_add0, if_neg (nI_in (N := 79) (by omega) (by omega)), if_neg (nI_in (N := 79) (by omega) (by omega)), nI_clamp (by omega)]
theorem SREL.lv {sto dro fou told rolls frm : Int32} {le sh tk sr se r : kF} (h : SREL sto dro fou told le sh rolls frm tk sr se r) {k : Nat} (hk : k < 10) : r k = le k ∧ r (10 + k) = sh k ∧ lvok (le k) ∧ shok (sh k) := by
  obtain ⟨M, R, Fm, T, S, e1, hP, -⟩ := h
  exact hP.2.1 k hk
theorem SREL.touch {sto dro fou told rolls frm : Int32} {le sh tk sr se r : kF} (h : SREL sto dro fou told le sh rolls frm tk sr se r) {k : Nat} {v : Int32} (hk : k < 10) (hv : 0 ≤ v ∧ v ≤ 3) : SREL sto dro fou told (upd le k v) sh rolls frm tk sr se (upd r k v) := by
  obtain ⟨M, R, Fm, T, S, e1, hP, hI, hC, hM, ⟨a1, a2, a3, a4, a5, a6⟩, hS⟩ := h
  obtain ⟨j, hj, rfl⟩ := nat_of (n := 3) (by omega) hv
  have hl : lvok (nI j) := by rcases (show j = 0 ∨ j = 1 ∨ j = 2 ∨ j = 3 by omega) with e | e | e | e <;> subst e <;> simp [lvok] <;> decide
  have h4 : nI j ≠ 4 := by rcases (show j = 0 ∨ j = 1 ∨ j = 2 ∨ j = 3 by omega) with e | e | e | e <;> subst e <;> decide
  refine ⟨M, R, Fm, T, S, e1, ⟨hP.1, hP.2.1.lean' hk hl, fun i hi => ?_, fun i hi hb => ?_⟩, hI, hC, hM.keep (R_le hI) (fun i hi _ => upd_ne (by omega)), ⟨(upd_ne (by omega)).trans a1, (upd_ne (by omega)).trans a2, (upd_ne (by omega)).trans a3, (upd_ne (by omega)).trans a4, (upd_ne (by omega)).trans a5, (upd_ne (by omega)).trans a6⟩, hS⟩
  · rw [upd_ne (by omega)]; exact hP.2.2.1 i hi
  · by_cases c : i = k
    · subst c; rw [upd_self]; exact h4
    · rw [upd_ne c]; exact hP.2.2.2 i hi hb
theorem settingAt_c {se : kF} {i : Nat} (hi : i < 3) : fn_X6_settingAt se (nI i) = some (se i) := by
  unfold fn_X6_settingAt
  rw [setting_k hi, kbs, if_neg (by decide), if_neg (nI_in (N := 3) hi (by omega)), nI_clamp (by omega)]
  rfl
theorem change_c {se : kF} {i : Nat} {v : Int32} (hi : i < 3) : fn_X6_change se (nI i) v = some (se i, upd se i v) := by
  unfold fn_X6_change
  rw [settingAt_c hi, kbs, setting_k hi, kbs, if_neg (by decide), if_neg (nI_in (N := 3) hi (by omega)), nI_clamp (by omega)]
  rfl
theorem SREL.se {sto dro fou told rolls frm : Int32} {le sh tk sr se r : kF} (h : SREL sto dro fou told le sh rolls frm tk sr se r) {i : Nat} (hi : i < 3) : r (76 + i) = se i := by
  obtain ⟨M, R, Fm, T, S, e1, hP, hI, hC, hM, ⟨a1, a2, a3, a4, a5, a6⟩, hS⟩ := h
  rcases (show i = 0 ∨ i = 1 ∨ i = 2 by omega) with e | e | e <;> subst e
  · exact a4
  · exact a5
  · exact a6
theorem SREL.set {sto dro fou told rolls frm : Int32} {le sh tk sr se r : kF} (h : SREL sto dro fou told le sh rolls frm tk sr se r) {i : Nat} {v : Int32} (hi : i < 3) (hv : if i = 0 then 3 ≤ v ∧ v ≤ 90 else 0 ≤ v ∧ v ≤ 3) : SREL sto dro fou told le sh rolls frm tk sr (upd se i v) (upd r (76 + i) v) := by
  obtain ⟨M, R, Fm, T, S, e1, hP, hI, hC, hM, ⟨a1, a2, a3, a4, a5, a6⟩, hS⟩ := h
  refine ⟨M, R, Fm, T, S, e1, hP.keep (fun j hj => upd_ne (by omega)), hI, hC, hM.keep (R_le hI) (fun j _ hj => upd_ne (by omega)), ⟨(upd_ne (by omega)).trans a1, (upd_ne (by omega)).trans a2, (upd_ne (by omega)).trans a3, ?_, ?_, ?_⟩, ?_, ?_⟩
  · by_cases c : i = 0
    · subst c; exact upd_self.trans upd_self.symm
    · rw [upd_ne (by omega), upd_ne (by omega), a4]
  · by_cases c : i = 1
    · subst c; exact upd_self.trans upd_self.symm
    · rw [upd_ne (by omega), upd_ne (by omega), a5]
  · by_cases c : i = 2
    · subst c; exact upd_self.trans upd_self.symm
    · rw [upd_ne (by omega), upd_ne (by omega), a6]
  · by_cases c : i = 0
    · subst c
      rw [upd_self]
      exact hv.1
    · rw [upd_ne (fun e => c e.symm)]; exact hS.1
  · by_cases c : i = 1
    · subst c
      rw [upd_self]
      exact Int32.lt_of_le_of_lt hv.2 (by decide)
    · rw [upd_ne (fun e => c e.symm)]; exact hS.2
theorem SREL.sr0 {sto dro fou told rolls frm : Int32} {le sh tk sr se r : kF} (h : SREL sto dro fou told le sh rolls frm tk sr se r) : sr 0 = 0 := by
  obtain ⟨M, R, Fm, T, S, e1, hP, hI, hC, -⟩ := h
  rw [hC.2.2.2 0 (by omega), hI.2.1]
  rfl
theorem SREL.pts {sto dro fou told rolls frm : Int32} {le sh tk sr se r : kF} (h : SREL sto dro fou told le sh rolls frm tk sr se r) : ∃ p : Nat, p ≤ 300 ∧ fn_X4_allPoints rolls frm tk sr = some (nI p) ∧ fn_X8_points r = some (nI p) := by
  obtain ⟨M, R, Fm, T, S, e1, hP, hI, hC, hM, -⟩ := h
  refine ⟨_, ?_, pts_c hI hC, pts_m hI hM⟩
  have : ∀ n, npts R Fm T S n ≤ 30 * n := by
    intro n
    induction n with
    | zero => exact Nat.le_refl _
    | succ n ih =>
      have := npt_le hI (nst R Fm S n)
      unfold npts
      omega
  exact this 10
theorem SREL.fresh {sto dro fou : Int32} {le sh tk sr se r : kF} (hl : ∀ j, j < 10 → le j = 0 ∧ sh j = 0) (hr : ∀ j, j < 10 → r j = 0 ∧ r (10 + j) = 0 ∧ r (20 + j) = 1) (hz : ∀ i, 30 ≤ i → i < 73 → r i = 0) (h0 : sr 0 = 0) (hX : RX sto dro fou se r) (hS : SE se) : SREL sto dro fou 1023 le sh 0 0 tk sr se r := by
  have hn : ∀ f, nin 0 0 (fun _ => 0) f = 0 := fun f => by unfold nin nst; split <;> split <;> rfl
  refine ⟨1023, 0, 0, fun _ => 0, fun _ => 0, rfl, PI_rack hl hr, ⟨by omega, rfl, fun i hi => absurd hi (Nat.not_lt_zero i), fun f hf => absurd hf (Nat.not_lt_zero f), Nat.le_refl _, fun e => by omega, fun _ => Or.inl rfl, fun e => by omega⟩, ⟨rfl, rfl, fun i hi => absurd hi (Nat.not_lt_zero i), fun f hf => ?_⟩, ⟨hz 51 (by omega) (by omega), hz 52 (by omega) (by omega), fun i hi => absurd hi (Nat.not_lt_zero i), fun f hf _ => hz (53 + f) (by omega) (by omega), fun f hf => ?_⟩, hX, hS⟩
  · have : f = 0 := by omega
    subst this
    exact h0
  · rw [hn]
    exact hz (63 + f) (by omega) (by omega)
theorem begin_loop {x1 : Int32} {r0 : kF} : ∀ (d k q : Nat) (r : kF), k + d = 73 → 30 ≤ k → d < q → (∀ i, 30 ≤ i → i < k → r i = 0) → (∀ i, 73 ≤ i → r i = r0 i) → ∃ r', fn_X8_beginOn_8 q r x1 (nI k) = (fn_X8_rack r').bind (fun o => some (x1, o)) ∧ (∀ i, 30 ≤ i → i < 73 → r' i = 0) ∧ ∀ i, 73 ≤ i → r' i = r0 i := by
  intro d
  induction d with
  | zero =>
    intro k q r hk h30 hq h1 h2
    obtain ⟨q, rfl⟩ : ∃ z, q = z + 1 := ⟨q - 1, by omega⟩
    have hk : k = 73 := by omega
    subst hk
    refine ⟨r, ?_, h1, h2⟩
    show (if (73 : Int32) ≤ nI 73 then _ else _) = _
    rw [if_pos (show (73 : Int32) ≤ nI 73 from Int32.le_refl _)]
  | succ d ih =>
    intro k q r hk h30 hq h1 h2
    obtain ⟨q, rfl⟩ : ∃ z, q = z + 1 := ⟨q - 1, by omega⟩
    obtain ⟨r', e, e1, e2⟩ := ih (k + 1) q (upd r k 0) (by omega) (by omega) (by omega) (fun i hi hi2 => by
      by_cases c : i = k
      · subst c; exact upd_self
      · rw [upd_ne c]; exact h1 i hi (by omega)) (fun i hi => by rw [upd_ne (by omega)]; exact h2 i hi)
    refine ⟨r', ?_, e1, e2⟩
    rw [← e]
    show (if _ then _ else _) = _
    rw [if_neg (show ¬ (73 : Int32) ≤ nI k from ix_ge (n := 73) (by omega) (by omega)), if_neg (nI_in (N := 79) (by omega) (by omega)), nI_clamp (by omega), nI_1]
theorem sim_begin {sto dro fou told rolls frm : Int32} {le sh tk sr se r : kF} (h : SREL sto dro fou told le sh rolls frm tk sr se r) :
    ∃ (p : Nat) (le' sh' r' : kF), p ≤ 300 ∧ fn_X6_beginGame told le sh rolls frm tk sr = some (nI p, 1023, le', sh', 0, 0) ∧ fn_X8_beginOn r = some (nI p, r') ∧ SREL sto dro fou 1023 le' sh' 0 0 tk sr se r' := by
  obtain ⟨p, hp, p1, p2⟩ := h.pts
  obtain ⟨le', sh', hc, hl⟩ := rack_c (told := told) (le := le) (sh := sh)
  obtain ⟨r1, b1, b2, b3⟩ := begin_loop (x1 := nI p) (r0 := r) 43 30 4096 r (by omega) (by omega) (by omega) (fun i hi hi2 => by omega) (fun _ _ => rfl)
  obtain ⟨r2, c1, c2, c3⟩ := rack_m (r := r1)
  have h0 := h.sr0
  obtain ⟨M, R, Fm, T, S, e1, hP, hI, hC, hM, ⟨a1, a2, a3, a4, a5, a6⟩, hS⟩ := h
  have hk : ∀ i, 73 ≤ i → r2 i = r i := fun i hi => (c3 i (by omega)).trans (b3 i hi)
  refine ⟨p, le', sh', r2, hp, ?_, ?_, SREL.fresh hl c2 (fun i hi hi2 => (c3 i hi).trans (b2 i hi hi2)) h0 ⟨(hk 73 (by omega)).trans a1, (hk 74 (by omega)).trans a2, (hk 75 (by omega)).trans a3, (hk 76 (by omega)).trans a4, (hk 77 (by omega)).trans a5, (hk 78 (by omega)).trans a6⟩ hS⟩
  · unfold fn_X6_beginGame
    rw [p1, kbs, hc, kbs]
    rfl
  · unfold fn_X8_beginOn
    rw [p2, kbs, show (30 : Int32) = nI 30 from rfl, b1, c1, kbs]
theorem clear_loop : ∀ (d k q : Nat) (r : kF), k + d = 79 → d < q → (∀ i, i < k → r i = 0) → ∃ r', fn_X8_clear_2 q r (nI k) = (fn_X8_rack (upd (upd (upd r' 76 18) 77 2) 78 1)).bind (fun o => some o) ∧ ∀ i, i < 79 → r' i = 0 := by
  intro d
  induction d with
  | zero =>
    intro k q r hk hq h1
    obtain ⟨q, rfl⟩ : ∃ z, q = z + 1 := ⟨q - 1, by omega⟩
    have hk : k = 79 := by omega
    subst hk
    refine ⟨r, ?_, h1⟩
    show (if (79 : Int32) ≤ nI 79 then _ else _) = _
    rw [if_pos (show (79 : Int32) ≤ nI 79 from Int32.le_refl _)]
  | succ d ih =>
    intro k q r hk hq h1
    obtain ⟨q, rfl⟩ : ∃ z, q = z + 1 := ⟨q - 1, by omega⟩
    obtain ⟨r', e, e1⟩ := ih (k + 1) q (upd r k 0) (by omega) (by omega) (fun i hi => by
      by_cases c : i = k
      · subst c; exact upd_self
      · rw [upd_ne c]; exact h1 i (by omega))
    refine ⟨r', ?_, e1⟩
    rw [← e]
    show (if _ then _ else _) = _
    rw [if_neg (show ¬ (79 : Int32) ≤ nI k from ix_ge (n := 79) (by omega) (by omega)), if_neg (nI_in (N := 79) (by omega) (by omega)), nI_clamp (by omega), nI_1]
theorem sim_clear {sto dro fou told rolls frm : Int32} {le sh tk sr se r : kF} (h0 : sr 0 = 0) :
    ∃ (le' sh' se' r' : kF), fn_X6_renew sto dro fou told le sh rolls frm se = some (0, 0, 0, 1023, le', sh', 0, 0, se') ∧ fn_X8_clear r = some r' ∧ SREL 0 0 0 1023 le' sh' 0 0 tk sr se' r' := by
  obtain ⟨le', sh', hc, hl⟩ := rack_c (told := told) (le := le) (sh := sh)
  obtain ⟨r1, b1, b2⟩ := clear_loop 79 0 4096 r (by omega) (by omega) (fun i hi => absurd hi (Nat.not_lt_zero i))
  obtain ⟨r2, c1, c2, c3⟩ := rack_m (r := upd (upd (upd r1 76 18) 77 2) 78 1)
  have hk : ∀ i, 30 ≤ i → i < 76 → r2 i = 0 := fun i hi hi2 => by rw [c3 i hi, upd_ne (by omega), upd_ne (by omega), upd_ne (by omega)]; exact b2 i (by omega)
  refine ⟨le', sh', upd (upd (upd se 0 18) 1 2) 2 1, r2, ?_, ?_, SREL.fresh hl c2 (fun i hi hi2 => hk i hi (by omega)) h0 ⟨hk 73 (by omega) (by omega), hk 74 (by omega) (by omega), hk 75 (by omega) (by omega), ?_, ?_, ?_⟩ ⟨?_, ?_⟩⟩
  · unfold fn_X6_renew
    rw [hc, kbs]
    rfl
  · unfold fn_X8_clear
    rw [show (0 : Int32) = nI 0 from rfl, b1, c1, kbs]
  · rw [c3 76 (by omega), upd_ne (by omega), upd_ne (by omega), upd_self, upd_ne (by omega), upd_ne (by omega), upd_self]
  · rw [c3 77 (by omega), upd_ne (by omega), upd_self, upd_ne (by omega), upd_self]
  · rw [c3 78 (by omega), upd_self, upd_self]
  · rw [upd_ne (by omega), upd_ne (by omega), upd_self]; decide
  · rw [upd_ne (by omega), upd_self]; decide
