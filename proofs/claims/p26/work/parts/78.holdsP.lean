/-! what holds on each lane -/
theorem nmask_add {P : Nat → Bool} {k : Nat} : nmask P (k + 1) = nmask P k + (if P k then 2 ^ k else 0) := by
  have hlt := nmask_lt P k
  show nmask P k ||| (if P k then 2 ^ k else 0) = _
  split
  · have h := Nat.two_pow_add_eq_or_of_lt hlt 1
    rw [Nat.mul_one] at h
    rw [Nat.or_comm, ← h, Nat.add_comm]
  · rw [Nat.or_zero, Nat.add_zero]
theorem board_ok {k : Nat} (hk : k < 10) {s : Int32} (hs : shok s) : kHB k + s = ((s + 20) - 3 * nI (nrow k)) + 6 * (nI k - (nI (nrow k) * (nI (nrow k) + 1)) / 2) := by
  rcases hs with e | e | e | e | e <;> subst e
  · exact (show ∀ k, k < 10 → kHB k + (-2) = (((-2) + 20) - 3 * nI (nrow k)) + 6 * (nI k - (nI (nrow k) * (nI (nrow k) + 1)) / 2) by decide +kernel) k hk
  · exact (show ∀ k, k < 10 → kHB k + (-1) = (((-1) + 20) - 3 * nI (nrow k)) + 6 * (nI k - (nI (nrow k) * (nI (nrow k) + 1)) / 2) by decide +kernel) k hk
  · exact (show ∀ k, k < 10 → kHB k + 0 = ((0 + 20) - 3 * nI (nrow k)) + 6 * (nI k - (nI (nrow k) * (nI (nrow k) + 1)) / 2) by decide +kernel) k hk
  · exact (show ∀ k, k < 10 → kHB k + 1 = ((1 + 20) - 3 * nI (nrow k)) + 6 * (nI k - (nI (nrow k) * (nI (nrow k) + 1)) / 2) by decide +kernel) k hk
  · exact (show ∀ k, k < 10 → kHB k + 2 = ((2 + 20) - 3 * nI (nrow k)) + 6 * (nI k - (nI (nrow k) * (nI (nrow k) + 1)) / 2) by decide +kernel) k hk
section HO
variable {M R Fm : Nat} {T S : Nat → Nat} {d : kDk} {r : kF} {q13 : kDk → Int32 → Int32 → Int32 → Int32 → Int32 → Int32 → Option (Int32 × kDk)}
theorem h_183 (h : SD M R Fm T S d r) {k : Nat} (hk : k < 10) {x1 x2 x3 x4 : Int32} : fn_L_holds_183 q13 d x1 x2 x3 x4 (nI k) (dSh d k) (nI (nrow k)) = q13 d x1 x2 x3 x4 1 (nI (k + 1)) := by
  have hs := (h.2.1.2.1 k hk).2.2.2
  unfold fn_L_holds_183 fn_L_holds_226
  refine (rgo (q_pin h hk (w := 2) (by omega))).trans ?_
  refine (if_pos (show kHB k + dSh d k = _ from board_ok hk hs)).trans ?_
  show q13 d x1 x2 x3 x4 1 (nI k + 1) = _
  rw [nI_1]
theorem h_145 (h : SD M R Fm T S d r) {k : Nat} (hk : k < 10) {x1 x2 x3 x8 k0 k1 : Int32} (h8 : x8 = 0 ∨ dLe d k ≠ 4) : fn_L_holds_145 q13 d x1 x2 x3 (nI k) (dLe d k) x8 (dSh d k) (nI (nrow k)) k0 k1 = q13 d x1 x2 x3 (k0 + k1) 1 (nI (k + 1)) := by
  have hs : shok (dSh d k) := (h.2.1.2.1 k hk).2.2.2
  have hl : lvok (dLe d k) := (h.2.1.2.1 k hk).2.2.1
  have b1 : ¬ dLe d k < 0 := by rcases hl with e | e | e | e | e <;> rw [e] <;> decide
  have b2 : ¬ (4 : Int32) < dLe d k := by rcases hl with e | e | e | e | e <;> rw [e] <;> decide
  have b3 : ¬ dSh d k < (-2 : Int32) := by rcases hs with e | e | e | e | e <;> rw [e] <;> decide
  have b4 : ¬ (2 : Int32) < dSh d k := by rcases hs with e | e | e | e | e <;> rw [e] <;> decide
  unfold fn_L_holds_145
  rw [if_neg b1, if_neg b2, if_neg b3, if_neg b4]
  by_cases c : x8 = 0
  · rw [if_pos c]
    exact h_183 h hk
  · rw [if_neg c, if_neg (show ¬ (4 : Int32) ≤ dLe d k from fun z => (h8.resolve_left c) ((le4_iff hl).mp z))]
    exact h_183 h hk
theorem h_88 (h : SD M R Fm T S d r) {k : Nat} (hk : k < 10) {x1 : Int32} :
    fn_L_holds_88 q13 d x1 (nI (npop M k)) (nI (npop (nless 1023 (nmore (dLe d) 3)) k)) (nI (nmask (fun k => M.testBit k && !decide (dLe d k ≤ dSe d 2)) k)) (nI k) (dLe d k) (nI (if M.testBit k then 1 else 0)) (dSh d k) (nI (nrow k)) =
      q13 d x1 (nI (npop M (k + 1))) (nI (npop (nless 1023 (nmore (dLe d) 3)) (k + 1))) (nI (nmask (fun k => M.testBit k && !decide (dLe d k ≤ dSe d 2)) (k + 1))) 1 (nI (k + 1)) := by
  have hl : lvok (dLe d k) := (h.2.1.2.1 k hk).2.2.1
  have h4 : M.testBit k = true → dLe d k ≠ 4 := h.2.1.2.2.2 k hk
  have hU : (nless 1023 (nmore (dLe d) 3)).testBit k = !decide (dLe d k = 4) := by
    rw [nless_bit hk, b1023 hk, nmore_bit hk]
    have := lv3_iff hl
    by_cases c : dLe d k = 4
    · have c2 : ¬ dLe d k ≤ 3 := fun z => (this.mp z) c
      simp [c, c2]
    · have c2 : dLe d k ≤ 3 := this.mpr c
      simp [c, c2]
  have eM : npop M (k + 1) = npop M k + (if M.testBit k then 1 else 0) := rfl
  have eU : npop (nless 1023 (nmore (dLe d) 3)) (k + 1) = npop (nless 1023 (nmore (dLe d) 3)) k + (if (nless 1023 (nmore (dLe d) 3)).testBit k then 1 else 0) := rfl
  rw [eM, eU, nmask_add, hU, ← nI_add, ← nI_add, ← nI_add]
  unfold fn_L_holds_88
  by_cases c : dLe d k = 4
  · have cM : M.testBit k = false := by
      cases e : M.testBit k with
      | true => exact absurd c (h4 e)
      | false => rfl
    rw [if_pos ((le4_iff hl).mpr c)]
    unfold fn_L_holds_107 fn_L_holds_144
    rw [cM]
    rw [if_neg (show ¬ nI (if false = true then 1 else 0) = (1 : Int32) by decide)]
    have := h_145 (q13 := q13) (x1 := x1) (x2 := nI (npop M k) + nI (if false = true then 1 else 0)) (x3 := nI (npop (nless 1023 (nmore (dLe d) 3)) k) + 0) (x8 := nI (if false = true then 1 else 0)) (k0 := nI (nmask (fun k => M.testBit k && !decide (dLe d k ≤ dSe d 2)) k)) (k1 := 0) h hk (Or.inl (by decide))
    refine this.trans ?_
    simp [c, cM, show nI 0 = (0 : Int32) from rfl, show nI 1 = (1 : Int32) from rfl]
  · rw [if_neg (fun z => c ((le4_iff hl).mp z))]
    unfold fn_L_holds_107
    cases cM : M.testBit k with
    | false =>
      unfold fn_L_holds_144
      rw [if_neg (show ¬ nI (if false = true then 1 else 0) = (1 : Int32) by decide)]
      refine (h_145 (q13 := q13) (x1 := x1) h hk (Or.inl (by decide))).trans ?_
      simp [c, cM, show nI 0 = (0 : Int32) from rfl, show nI 1 = (1 : Int32) from rfl]
    | true =>
      rw [if_pos (show nI (if true = true then 1 else 0) = (1 : Int32) by decide), if_neg (fun z => c ((le4_iff hl).mp z))]
      refine (rgo (q_setting (d := d) (i := 2) (by omega))).trans ?_
      by_cases cx : dLe d k ≤ dSe d 2
      · refine (if_pos cx).trans ?_
        unfold fn_L_holds_144
        refine (h_145 (q13 := q13) (x1 := x1) h hk (Or.inr c)).trans ?_
        simp [c, cM, cx, show nI 0 = (0 : Int32) from rfl, show nI 1 = (1 : Int32) from rfl]
      · refine (if_neg cx).trans ?_
        refine (h_145 (q13 := q13) (x1 := x1) h hk (Or.inr c)).trans ?_
        rw [n_shl1 hk]
        simp [c, cM, cx, show nI 0 = (0 : Int32) from rfl, show nI 1 = (1 : Int32) from rfl]
theorem h_13 (h : SD M R Fm T S d r) {x1 : Int32} : ∀ (e k q : Nat), k + e = 10 → e < q →
    fn_L_holds_13 q d x1 (nI (npop M k)) (nI (npop (nless 1023 (nmore (dLe d) 3)) k)) (nI (nmask (fun k => M.testBit k && !decide (dLe d k ≤ dSe d 2)) k)) 1 (nI k) =
      fn_L_holds_234 d x1 (nI (npop M 10)) (nI (npop (nless 1023 (nmore (dLe d) 3)) 10)) (nI (nmask (fun k => M.testBit k && !decide (dLe d k ≤ dSe d 2)) 10)) 1 := by
  intro e
  induction e with
  | zero =>
    intro k q hk hq
    obtain ⟨q, rfl⟩ : ∃ z, q = z + 1 := ⟨q - 1, by omega⟩
    have hk : k = 10 := by omega
    subst hk
    show (if (10 : Int32) ≤ nI 10 then _ else _) = _
    rw [if_pos (show (10 : Int32) ≤ nI 10 from Int32.le_refl _)]
  | succ e ih =>
    intro k q hk hq
    obtain ⟨q, rfl⟩ : ∃ z, q = z + 1 := ⟨q - 1, by omega⟩
    have hk10 : k < 10 := by omega
    rw [← ih (k + 1) q (by omega) (by omega), ← h_88 (q13 := fn_L_holds_13 q) h hk10]
    show (if (10 : Int32) ≤ nI k then _ else _) = _
    rw [if_neg (show ¬ (10 : Int32) ≤ nI k from ix_ge (n := 10) hk10 (by omega)), if_neg (show ¬ (1 : Int32) = 0 by decide)]
    refine (rgo (q_pin h hk10 (w := 0) (by omega))).trans ?_
    refine (rgo (q_pin h hk10 (w := 3) (by omega))).trans ?_
    refine (rgo (q_pin h hk10 (w := 1) (by omega))).trans ?_
    have n5 : nI k ≤ (5 : Int32) ↔ k ≤ 5 := nI_leI (b := 5) (by omega) (by omega)
    have n2 : nI k ≤ (2 : Int32) ↔ k ≤ 2 := nI_leI (b := 2) (by omega) (by omega)
    have n0 : nI k ≤ (0 : Int32) ↔ k ≤ 0 := nI_leI (b := 0) (by omega) (by omega)
    by_cases c5 : k ≤ 5
    · refine (if_pos (n5.mpr c5)).trans ?_
      by_cases c2 : k ≤ 2
      · refine (if_pos (n2.mpr c2)).trans ?_
        by_cases c0 : k ≤ 0
        · refine (if_pos (n0.mpr c0)).trans ?_
          rw [show nrow k = 0 by unfold nrow; rw [if_pos (by omega)]]
          rfl
        · refine (if_neg (fun z => c0 (n0.mp z))).trans ?_
          rw [show nrow k = 1 by unfold nrow; rw [if_neg (by omega), if_pos (by omega)]]
          rfl
      · refine (if_neg (fun z => c2 (n2.mp z))).trans ?_
        rw [show nrow k = 2 by unfold nrow; rw [if_neg (by omega), if_neg (by omega), if_pos (by omega)]]
        rfl
    · refine (if_neg (fun z => c5 (n5.mp z))).trans ?_
      rw [show nrow k = 3 by unfold nrow; rw [if_neg (by omega), if_neg (by omega), if_neg (by omega)]]
      rfl
theorem h_277 (h : SD M R Fm T S d r) {x1 x2 x3 x4 x7 x11 : Int32} : ∀ (e i q : Nat), i + e = R → e < q →
    fn_L_holds_277 q d x1 x2 x3 x4 1 (nI R) x7 (nI (nsum T i)) 0 0 x11 (nI i) = fn_L_holds_342 d x1 x2 x3 x4 1 (nI R) x7 (nI (nsum T R)) 0 0 x11 := by
  have hR := R_le h.2.2.1
  intro e
  induction e with
  | zero =>
    intro i q hk hq
    obtain ⟨q, rfl⟩ : ∃ z, q = z + 1 := ⟨q - 1, by omega⟩
    have hk : i = R := by omega
    subst hk
    show (if nI i ≤ nI i then _ else _) = _
    rw [if_pos (Int32.le_refl _)]
  | succ e ih =>
    intro i q hk hq
    obtain ⟨q, rfl⟩ : ∃ z, q = z + 1 := ⟨q - 1, by omega⟩
    have hT : T i ≤ 10 := h.2.2.1.2.2.1 i (by omega)
    have qt := q_taken h (i := i) (by omega)
    rw [if_pos (show i < R by omega)] at qt
    rw [← ih (i + 1) q (by omega) (by omega)]
    show (if nI R ≤ nI i then _ else _) = _
    rw [if_neg (nI_ge (show i < R by omega) (by omega)), if_neg (show ¬ (1 : Int32) = 0 by decide)]
    refine (rgo qt).trans ?_
    refine (rgo qt).trans ?_
    refine (if_neg (show ¬ nI (T i) < 0 from nI_pos (by omega))).trans ?_
    refine (rgo qt).trans ?_
    refine (if_neg (show ¬ (10 : Int32) < nI (T i) from nI_nlt (a := 10) hT (by omega))).trans ?_
    unfold fn_L_holds_334
    show fn_L_holds_277 q d x1 x2 x3 x4 1 (nI R) x7 (nI (nsum T i) + nI (T i)) 0 0 x11 (nI i + 1) = _
    rw [nI_add, nI_1]
    rfl
theorem h_418 (h : SD M R Fm T S d r) (hE : EX M R Fm T S) {f : Nat} (hf : f < 10) {q345 : kDk → Int32 → Int32 → Int32 → Int32 → Int32 → Int32 → Int32 → Int32 → Int32 → Int32 → Int32 → Int32 → Option (Int32 × kDk)} {x1 x2 x3 x4 x6 x8 x9 x10 x11 k1 : Int32} (hk1 : k1 = (if f = 9 then 3 else 2)) :
    fn_L_holds_418 q345 d x1 x2 x3 x4 x6 (nI Fm) x8 x9 x10 x11 (nI f) (nI (nin R Fm S f)) (nI (npt R T (nst R Fm S f))) (nI (nmk R T (nst R Fm S f))) (nI (nin R Fm S f)) k1 = q345 d x1 x2 x3 x4 1 x6 (nI Fm) x8 x9 x10 x11 (nI (f + 1)) := by
  have hI : SInv R Fm T S := h.2.2.1
  have hF := hI.1
  have hn3 := nin_le hI hf
  have ho := npt_le hI (nst R Fm S f)
  have hm2 : nmk R T (nst R Fm S f) ≤ 2 := nmk_le
  have fin : fn_L_holds_511 q345 d x1 x2 x3 x4 x6 (nI Fm) x8 x9 x10 x11 (nI f) = q345 d x1 x2 x3 x4 1 x6 (nI Fm) x8 x9 x10 x11 (nI (f + 1)) := by
    unfold fn_L_holds_511 fn_L_holds_516
    rw [nI_1]
  have e499 : fn_L_holds_499 q345 d x1 x2 x3 x4 x6 (nI Fm) x8 x9 x10 x11 (nI f) (nI (nin R Fm S f)) (nI (nmk R T (nst R Fm S f))) = q345 d x1 x2 x3 x4 1 x6 (nI Fm) x8 x9 x10 x11 (nI (f + 1)) := by
    unfold fn_L_holds_499
    by_cases c : nmk R T (nst R Fm S f) = 2
    · have := mk2_two hI hf c
      rw [if_pos ((nI_eq2 (by omega)).mpr c), if_neg (show ¬ nI (nin R Fm S f) < (2 : Int32) from nI_nlt (b := 2) this (by omega))]
      exact fin
    · rw [if_neg (fun z => c ((nI_eq2 (by omega)).mp z))]
      exact fin
  have e480 : fn_L_holds_480 q345 d x1 x2 x3 x4 x6 (nI Fm) x8 x9 x10 x11 (nI f) (nI (nin R Fm S f)) (nI (nmk R T (nst R Fm S f))) = q345 d x1 x2 x3 x4 1 x6 (nI Fm) x8 x9 x10 x11 (nI (f + 1)) := by
    unfold fn_L_holds_480
    by_cases c9 : f = 9
    · rw [if_pos ((nI_eq9 (by omega)).mpr c9)]
      exact e499
    · rw [if_neg (fun z => c9 ((nI_eq9 (by omega)).mp z))]
      by_cases c1 : nmk R T (nst R Fm S f) = 1
      · have := (nin2 hI (show f < 9 by omega)).2.1 c1
        rw [if_pos ((nI_eq1 (by omega)).mpr c1), if_pos ((nI_eq1 (by omega)).mpr this)]
        exact e499
      · rw [if_neg (fun z => c1 ((nI_eq1 (by omega)).mp z))]
        exact e499
  have e468 : fn_L_holds_468 q345 d x1 x2 x3 x4 x6 (nI Fm) x8 x9 x10 x11 (nI f) (nI (nin R Fm S f)) (nI (npt R T (nst R Fm S f))) (nI (nmk R T (nst R Fm S f))) = q345 d x1 x2 x3 x4 1 x6 (nI Fm) x8 x9 x10 x11 (nI (f + 1)) := by
    unfold fn_L_holds_468
    by_cases c : nmk R T (nst R Fm S f) = 0
    · have := own_low hI hE hf c
      rw [if_neg (show ¬ (0 : Int32) < nI (nmk R T (nst R Fm S f)) by rw [c]; decide), if_neg (show ¬ (10 : Int32) < nI (npt R T (nst R Fm S f)) from nI_nlt (a := 10) this (by omega))]
      exact e480
    · rw [if_pos (show (0 : Int32) < nI (nmk R T (nst R Fm S f)) from nI_lt (a := 0) (by omega) (by omega))]
      exact e480
  have e453 : ∀ y : Nat, y ≤ npt R T (nst R Fm S f) → fn_L_holds_453 q345 d x1 x2 x3 x4 x6 (nI Fm) x8 x9 x10 x11 (nI f) (nI (nin R Fm S f)) (nI (npt R T (nst R Fm S f))) (nI (nmk R T (nst R Fm S f))) (nI (npt R T (nst R Fm S f))) (nI y) = q345 d x1 x2 x3 x4 1 x6 (nI Fm) x8 x9 x10 x11 (nI (f + 1)) := by
    intro y hy
    unfold fn_L_holds_453
    rw [if_neg (nI_nlt hy (by omega))]
    by_cases c : Fm ≤ f
    · rw [if_pos (nI_le c (by omega))]
      exact e468
    · have := nin_pos hI (f := f) (by omega)
      rw [if_neg (nI_ge (by omega) (by omega)), if_neg (show ¬ nI (nin R Fm S f) ≤ (0 : Int32) from nI_ge (a := 0) this (by omega))]
      exact e468
  have e433 : fn_L_holds_433 q345 d x1 x2 x3 x4 x6 (nI Fm) x8 x9 x10 x11 (nI f) (nI (nin R Fm S f)) (nI (npt R T (nst R Fm S f))) (nI (nmk R T (nst R Fm S f))) = q345 d x1 x2 x3 x4 1 x6 (nI Fm) x8 x9 x10 x11 (nI (f + 1)) := by
    unfold fn_L_holds_433
    rw [if_neg (show ¬ (30 : Int32) < nI (npt R T (nst R Fm S f)) from nI_nlt (a := 30) ho (by omega))]
    by_cases c : nmk R T (nst R Fm S f) = 0
    · rw [if_pos (show nI (nmk R T (nst R Fm S f)) ≤ (0 : Int32) by rw [c]; decide)]
      exact e453 0 (Nat.zero_le _)
    · rw [if_neg (show ¬ nI (nmk R T (nst R Fm S f)) ≤ (0 : Int32) from nI_ge (a := 0) (by omega) (by omega))]
      exact e453 10 (own_high hI c)
  unfold fn_L_holds_418
  have hk : ¬ k1 < nI (nin R Fm S f) := by
    rw [hk1]
    by_cases c9 : f = 9
    · rw [if_pos c9]
      exact nI_nlt (a := 3) hn3 (by omega)
    · rw [if_neg c9]
      exact nI_nlt (a := 2) (nin2 hI (show f < 9 by omega)).1 (by omega)
  rw [if_neg hk]
  by_cases c : f ≤ Fm
  · rw [if_pos (nI_le c (by omega))]
    exact e433
  · rw [if_neg (nI_ge (by omega) (by omega)), if_pos (show nI (nin R Fm S f) = 0 by rw [nin_zero hI (show Fm < f by omega)]; rfl)]
    exact e433
theorem h_345 (h : SD M R Fm T S d r) (hE : EX M R Fm T S) {x1 x2 x3 x4 x6 x8 x11 : Int32} : ∀ (e f q : Nat), f + e = 10 → e < q →
    fn_L_holds_345 q d x1 x2 x3 x4 1 x6 (nI Fm) x8 (nI (nst R Fm S f)) (nI (npts R Fm T S f)) x11 (nI f) = fn_L_holds_524 d x1 x2 x3 x4 1 x6 (nI Fm) x8 (nI (nst R Fm S 10)) (nI (npts R Fm T S 10)) x11 := by
  have hI : SInv R Fm T S := h.2.2.1
  intro e
  induction e with
  | zero =>
    intro f q hk hq
    obtain ⟨q, rfl⟩ : ∃ z, q = z + 1 := ⟨q - 1, by omega⟩
    have hk : f = 10 := by omega
    subst hk
    show (if (10 : Int32) ≤ nI 10 then _ else _) = _
    rw [if_pos (show (10 : Int32) ≤ nI 10 from Int32.le_refl _)]
  | succ e ih =>
    intro f q hk hq
    obtain ⟨q, rfl⟩ : ∃ z, q = z + 1 := ⟨q - 1, by omega⟩
    have hf : f < 10 := by omega
    have hm := nst_mono hI f
    rw [← ih (f + 1) q (by omega) (by omega)]
    show (if (10 : Int32) ≤ nI f then _ else _) = _
    rw [if_neg (show ¬ (10 : Int32) ≤ nI f from ix_ge (n := 10) hf (by omega)), if_neg (show ¬ (1 : Int32) = 0 by decide)]
    refine (rgo (q_frame h hf (w := 0) (by omega))).trans ?_
    refine (rgo (q_frame h hf (w := 1) (by omega))).trans ?_
    refine (rgo (q_frame h hf (w := 2) (by omega))).trans ?_
    have e1 : nI (nst R Fm S f) + nI (nin R Fm S f) = nI (nst R Fm S (f + 1)) := by
      rw [nI_add]
      congr 1
      unfold nin
      omega
    have e2 : nI (npts R Fm T S f) + nI (npt R T (nst R Fm S f)) = nI (npts R Fm T S (f + 1)) := nI_add _ _
    rw [← e1, ← e2]
    by_cases c9 : f = 9
    · refine (if_pos ((nI_eq9 (by omega)).mpr c9)).trans ?_
      exact h_418 h hE hf (by rw [if_pos c9])
    · refine (if_neg (fun z => c9 ((nI_eq9 (by omega)).mp z))).trans ?_
      exact h_418 h hE hf (by rw [if_neg c9])
end HO
theorem holds_all {d : kDk} {m : kMd} (h : DI d m) {X : Nat} (hX : X < 2 ^ 31) : ∃ t, fn_L_holds d (nI X) = some (1, dT d t) := by
  obtain ⟨M, R, Fm, T, S, hN, hE⟩ := h.gd
  obtain ⟨t, ht⟩ := balls_all h hX
  have hI : SInv R Fm T S := hN.2.2.1
  have hF := hI.1
  have hR := R_le hI
  have hp := npts_le hI 10
  have hs := sum_pts hI
  refine ⟨t, ?_⟩
  have e644 : ∀ y : Int32, fn_L_holds_644 d (nI X) y y = some (1, dT d t) := by
    intro y
    unfold fn_L_holds_644 fn_L_holds_660
    rw [if_pos rfl]
    refine (rgo ht).trans ?_
    refine (if_neg (show ¬ (1 : Int32) = 0 by decide)).trans ?_
    exact if_pos (Or.inr rfl)
  have e524 : fn_L_holds_524 d (nI X) (nI (npop M 10)) (nI (npop (nless 1023 (nmore (dLe d) 3)) 10)) (nI (nmask (fun k => M.testBit k && !decide (dLe d k ≤ dSe d 2)) 10)) 1 (nI R) (nI Fm) (nI (nsum T R)) (nI (nst R Fm S 10)) (nI (npts R Fm T S 10)) (nI (if Fm = 10 then 1 else 0)) = some (1, dT d t) := by
    unfold fn_L_holds_524
    rw [if_neg (show ¬ (1 : Int32) = 0 by decide)]
    refine (rgo (q_about hN (w := 7) (by omega))).trans ?_
    refine (if_pos rfl).trans ?_
    refine (rgo (q_about hN (w := 8) (by omega))).trans ?_
    refine (if_pos rfl).trans ?_
    refine (rgo (q_drops hN)).trans ?_
    refine (if_pos rfl).trans ?_
    refine (if_pos (show nI (nst R Fm S 10) = nI R by rw [nst_end hI])).trans ?_
    refine (rgo (q_about hN (w := 3) (by omega))).trans ?_
    refine (if_pos rfl).trans ?_
    refine (if_neg (show ¬ nI (npts R Fm T S 10) < nI (nsum T R) from nI_nlt hs (by omega))).trans ?_
    unfold fn_L_holds_602 fn_L_holds_614
    by_cases c : Fm = 10
    · rw [if_pos c]
      refine (if_pos (show nI 1 = (1 : Int32) from rfl)).trans ?_
      rw [if_pos ((nI_eq10 (by omega)).mpr c), if_pos rfl]
      refine (rgo (q_about hN (w := 1) (by omega))).trans ?_
      refine (if_pos (show nI 1 = (1 : Int32) from rfl)).trans ?_
      have e0 : nI (nin R Fm S Fm) = 0 := by
        have : nin R Fm S Fm = 0 := by
          subst c
          have e10 := (hI.2.2.2.2.2.1 rfl).1
          unfold nin nst
          rw [if_neg (by omega), if_pos (Nat.le_refl _), e10]
          omega
        rw [this]
        rfl
      show fn_L_holds_644 d (nI X) (nI (nin R Fm S Fm)) 0 = _
      rw [e0]
      exact e644 0
    · rw [if_neg c]
      refine (if_neg (show ¬ nI 0 = (1 : Int32) by decide)).trans ?_
      rw [if_neg (fun z => c ((nI_eq10 (by omega)).mp z)), if_pos rfl]
      refine (rgo (q_about hN (w := 1) (by omega))).trans ?_
      refine (if_neg (show ¬ nI 0 = (1 : Int32) by decide)).trans ?_
      refine (rgo (q_frame hN (f := Fm) (w := 0) (by omega) (by omega))).trans ?_
      exact e644 _
  unfold fn_L_holds
  refine (h_13 hN (x1 := nI X) 10 0 12 (by omega) (by omega)).trans ?_
  unfold fn_L_holds_234
  refine (rgo (q_about hN (w := 2) (by omega))).trans ?_
  refine (rgo (q_about hN (w := 0) (by omega))).trans ?_
  refine (rgo (q_about hN (w := 9) (by omega))).trans ?_
  refine (h_277 hN (x1 := nI X) R 0 23 (by omega) (by omega)).trans ?_
  unfold fn_L_holds_342
  have h0 := h_345 hN hE (x1 := nI X) (x2 := nI (npop M 10)) (x3 := nI (npop (nless 1023 (nmore (dLe d) 3)) 10)) (x4 := nI (nmask (fun k => M.testBit k && !decide (dLe d k ≤ dSe d 2)) 10)) (x6 := nI R) (x8 := nI (nsum T R)) (x11 := nI (if Fm = 10 then 1 else 0)) 10 0 12 (by omega) (by omega)
  rw [nst_zero hI] at h0
  exact h0.trans e524
