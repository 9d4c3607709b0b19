/-! what comes after a roll: class and reference -/
def nkind (R Fm t : Nat) (T S : Nat → Nat) : Nat := if ndone R Fm t T S then (if Fm < 9 then 1 else 0) else if Fm < 9 then 2 else if t = 10 ∨ nmk (R + 1) (tup T R t) (S Fm) = 2 then 1 else 2
def nF (R Fm t : Nat) (T S : Nat → Nat) : Nat := if ndone R Fm t T S then Fm + 1 else Fm
def nS (R Fm t : Nat) (T S : Nat → Nat) : Nat → Nat := if ndone R Fm t T S then sup S (Fm + 1) (R + 1) else S
def kgo : Nat → kF → Option kF
  | 0, r => some r
  | 1, r => (fn_X8_rack r).bind fun o => some o
  | _, r => (fn_X8_setAgain r).bind fun o => some o
theorem nI_eq1 {a : Nat} (h : a < 2 ^ 31) : (nI a = (1 : Int32)) ↔ a = 1 := nI_eq (b := 1) h (by omega)
theorem nI_eq2 {a : Nat} (h : a < 2 ^ 31) : (nI a = (2 : Int32)) ↔ a = 2 := nI_eq (b := 2) h (by omega)
theorem nI_eq3 {a : Nat} (h : a < 2 ^ 31) : (nI a = (3 : Int32)) ↔ a = 3 := nI_eq (b := 3) h (by omega)
theorem nI_eq9 {a : Nat} (h : a < 2 ^ 31) : (nI a = (9 : Int32)) ↔ a = 9 := nI_eq (b := 9) h (by omega)
section GO
variable {R Fm : Nat} {T S : Nat → Nat}
theorem nst_done (f : Nat) : nst R (Fm + 1) (sup S (Fm + 1) R) f = nst R Fm S f := by
  unfold nst sup
  by_cases c : f ≤ Fm
  · rw [if_pos (by omega), if_neg (by omega), if_pos c]
  · rw [if_neg c]
    by_cases c2 : f ≤ Fm + 1
    · rw [if_pos c2, if_pos (by omega)]
    · rw [if_neg c2]
theorem nin_done (f : Nat) : nin R (Fm + 1) (sup S (Fm + 1) R) f = nin R Fm S f := by
  unfold nin
  rw [nst_done, nst_done]
theorem MSH_done {r : kF} (hR : R ≤ 21) (hF : Fm < 9) (hM : MSH R Fm T S r) : MSH R (Fm + 1) T (sup S (Fm + 1) R) (upd (upd r 52 (nI (Fm + 1))) (53 + (Fm + 1)) (nI R)) := by
  obtain ⟨h1, h2, h3, h4, h5⟩ := hM
  refine ⟨?_, ?_, fun i hi => ?_, fun f hf hf2 => ?_, fun f hf => ?_⟩
  · rw [upd_ne (by omega), upd_ne (by omega), h1]
  · rw [upd_ne (by omega), upd_self]
  · rw [upd_ne (by omega), upd_ne (by omega), h3 i hi]
  · by_cases c : f = Fm + 1
    · subst c
      rw [upd_self]
      unfold sup
      rw [if_pos rfl]
    · rw [upd_ne (by omega), upd_ne (by omega), h4 f hf (by omega)]
      unfold sup
      rw [if_neg c]
  · rw [upd_ne (by omega), upd_ne (by omega), h5 f hf, nin_done]
theorem MSH_last {r : kF} (hR : R ≤ 21) (hM : MSH R 9 T S r) : MSH R 10 T (sup S 10 R) (upd r 52 (nI 10)) := by
  obtain ⟨h1, h2, h3, h4, h5⟩ := hM
  refine ⟨?_, upd_self, fun i hi => ?_, fun f hf hf2 => ?_, fun f hf => ?_⟩
  · rw [upd_ne (by omega), h1]
  · rw [upd_ne (by omega), h3 i hi]
  · rw [upd_ne (by omega), h4 f hf (by omega)]
    unfold sup
    rw [if_neg (by omega)]
  · rw [upd_ne (by omega), h5 f hf]
    exact congrArg nI (nin_done (Fm := 9) f).symm
theorem add93 {tk sr : kF} {k : Nat} (hW : SW R Fm T S) (hC : CSH R Fm T S (nI R) (nI Fm) tk sr) (hF : Fm < 10) (hk : k < 10) : fn_X4_add_93 (nI R) (nI Fm) tk sr (nI k) = some (if R - S Fm < k then (nI R, nI Fm, tk, sr) else (nI R, nI (Fm + 1), tk, upd sr (Fm + 1) (nI R))) := by
  have hR := hW.2.1
  unfold fn_X4_add_93
  rw [rollsIn_cW hW hC hF, kbs, (ninF hW).1]
  by_cases c : R - S Fm < k
  · rw [if_pos (nI_lt c (by omega)), if_pos c]
    rfl
  · rw [if_neg (nI_nlt (by omega) (by omega)), if_neg c, nI_1, if_neg (nI_in (N := 11) (by omega) (by omega)), nI_clamp (by omega)]
    rfl
theorem CSH_done {rolls : Int32} {tk sr : kF} (hC : CSH R Fm T S rolls (nI Fm) tk sr) : CSH R (Fm + 1) T (sup S (Fm + 1) R) rolls (nI (Fm + 1)) tk (upd sr (Fm + 1) (nI R)) := by
  obtain ⟨h1, -, h3, h4⟩ := hC
  refine ⟨h1, rfl, h3, fun f hf => ?_⟩
  unfold sup
  by_cases c : f = Fm + 1
  · subst c
    rw [upd_self, if_pos rfl]
  · rw [upd_ne c, if_neg c, h4 f (by omega)]
theorem add_c {rolls frm : Int32} {tk sr : kF} (h : SInv R Fm T S) (hC : CSH R Fm T S rolls frm tk sr) (hF : Fm < 10) {t : Nat} (ht : t ≤ 10) :
    ∃ tk' sr', fn_X4_add rolls frm tk sr (nI t) = some (nI (R + 1), nI (nF R Fm t T S), tk', sr') ∧ CSH (R + 1) (nF R Fm t T S) (tup T R t) (nS R Fm t T S) (nI (R + 1)) (nI (nF R Fm t T S)) tk' sr' := by
  obtain ⟨rfl, rfl, hT, hs⟩ := hC
  have hR := R_le20 h hF
  have hW := SW_add h hF ht
  have hC1 : CSH (R + 1) Fm (tup T R t) S (nI (R + 1)) (nI Fm) (upd tk R (nI t)) sr := by
    refine ⟨rfl, rfl, fun i hi => ?_, hs⟩
    unfold tup
    by_cases c : i = R
    · subst c; rw [upd_self, if_pos rfl]
    · rw [upd_ne c, if_neg c, hT i (by omega)]
  have hd : ∀ k : Nat, k < 10 → ndone R Fm t T S = !decide (R + 1 - S Fm < k) → ∃ tk' sr', fn_X4_add_93 (nI (R + 1)) (nI Fm) (upd tk R (nI t)) sr (nI k) = some (nI (R + 1), nI (nF R Fm t T S), tk', sr') ∧ CSH (R + 1) (nF R Fm t T S) (tup T R t) (nS R Fm t T S) (nI (R + 1)) (nI (nF R Fm t T S)) tk' sr' := by
    intro k hk e
    rw [add93 hW hC1 hF hk]
    unfold nF nS
    rw [e]
    by_cases c : R + 1 - S Fm < k
    · rw [if_pos c]
      simp only [c, decide_true, Bool.not_true, Bool.false_eq_true, if_false]
      exact ⟨_, _, rfl, hC1⟩
    · rw [if_neg c]
      simp only [c, decide_false, Bool.not_false, if_true]
      exact ⟨_, _, rfl, CSH_done hC1⟩
  have hsR := S_leR' h (Nat.le_refl Fm)
  have hm : nmk (R + 1) (tup T R t) (S Fm) ≤ 2 := nmk_le
  unfold fn_X4_add
  rw [if_neg (ix_neg (by omega)), if_neg (show ¬ (10 : Int32) ≤ nI Fm from ix_ge (n := 10) hF (by omega)), if_neg (ix_neg (by omega)), if_pos (show nI R < (21 : Int32) from nI_lt (b := 21) (by omega) (by omega)), if_neg (nI_in (N := 21) (by omega) (by omega)), nI_clamp (by omega), nI_1, markOf_cW hW hC1 hF, kbs, (ninF hW).2]
  by_cases h9 : Fm < 9
  · rw [if_neg (show ¬ nI Fm = (9 : Int32) from fun e => by have := (nI_eq9 (by omega)).mp e; omega)]
    by_cases c : nmk (R + 1) (tup T R t) (S Fm) = 1
    · rw [if_pos ((nI_eq1 (by omega)).mpr c)]
      apply hd 1 (by omega)
      unfold ndone
      rw [if_pos h9, c]
      have : ¬ R + 1 - S Fm < 1 := by omega
      simp [this]
    · rw [if_neg (fun e => c ((nI_eq1 (by omega)).mp e))]
      apply hd 2 (by omega)
      unfold ndone
      rw [if_pos h9]
      have h2 : R + 1 - S Fm ≤ 2 := by rcases in_cases h hF with ⟨-, h3 | ⟨h3, -⟩⟩ | ⟨h3, -⟩ <;> omega
      simp only [c, decide_false, Bool.false_or]
      by_cases c2 : R + 1 - S Fm = 2
      · simp [c2]
      · have : R + 1 - S Fm < 2 := by omega
        simp [c2, this]
  · have e9 : Fm = 9 := by omega
    subst e9
    have h3 : R + 1 - S 9 ≤ 3 := by rcases in_cases h hF with ⟨h3, -⟩ | ⟨-, h3 | h3 | ⟨h3, -⟩⟩ <;> omega
    rw [if_pos (show nI 9 = (9 : Int32) from rfl)]
    by_cases c : nmk (R + 1) (tup T R t) (S 9) = 0
    · rw [if_pos ((nI_eq0 (by omega)).mpr c)]
      apply hd 2 (by omega)
      unfold ndone
      rw [if_neg (by omega), c]
      have hc := c
      by_cases c2 : R + 1 - S 9 < 2
      · have c3 : ¬ R + 1 - S 9 = 2 := by omega
        have c4 : ¬ R + 1 - S 9 = 3 := by omega
        simp [c2, c3, c4]
      · by_cases c3 : R + 1 - S 9 = 2
        · simp [c3]
        · have c4 : R + 1 - S 9 = 3 := by omega
          simp [c4]
    · rw [if_neg (fun e => c ((nI_eq0 (by omega)).mp e))]
      apply hd 3 (by omega)
      unfold ndone
      rw [if_neg (by omega)]
      simp only [c, decide_false, Bool.false_and, Bool.false_or]
      by_cases c3 : R + 1 - S 9 = 3
      · simp [c3]
      · have : R + 1 - S 9 < 3 := by omega
        simp [c3, this]
theorem isOver_c {a : Nat} (ha : a ≤ 10) : fn_X4_isOver (nI a) = some (if a = 10 then 1 else 0) := by
  unfold fn_X4_isOver
  by_cases c : a = 10
  · subst c; rfl
  · rw [if_pos (show nI a < (10 : Int32) from nI_lt (b := 10) (by omega) (by omega)), if_neg c]
    rfl
theorem wants_c {tk sr : kF} (h : SInv R Fm T S) (hF : Fm < 10) {t : Nat} (ht : t ≤ 10)
    (hC : CSH (R + 1) (nF R Fm t T S) (tup T R t) (nS R Fm t T S) (nI (R + 1)) (nI (nF R Fm t T S)) tk sr) :
    fn_X4_wantsNewRack (nI (R + 1)) (nI (nF R Fm t T S)) tk sr = some (if nkind R Fm t T S = 1 then 1 else 0) := by
  have hN : SInv (R + 1) (nF R Fm t T S) (tup T R t) (nS R Fm t T S) := SInv_add h hF ht
  have hR := R_le20 h hF
  have hF2 := hN.1
  unfold fn_X4_wantsNewRack
  rw [isOver_c hF2, kbs]
  by_cases c10 : nF R Fm t T S = 10
  · rw [if_pos c10, if_neg (by decide)]
    have e : nkind R Fm t T S = 0 := by
      unfold nF at c10
      unfold nkind
      split at c10
      · rename_i hd
        rw [if_pos hd, if_neg (by omega)]
      · omega
    rw [e]
    rfl
  · rw [if_neg c10, if_pos rfl, rollsIn_c hN hC (by omega), kbs]
    cases hd : ndone R Fm t T S with
    | true =>
      have e1 : nF R Fm t T S = Fm + 1 := if_pos hd
      have e2 : nS R Fm t T S = sup S (Fm + 1) (R + 1) := if_pos hd
      have e3 : nkind R Fm t T S = 1 := by unfold nkind; rw [if_pos hd, if_pos (by omega)]
      have e4 : nin (R + 1) (Fm + 1) (sup S (Fm + 1) (R + 1)) (Fm + 1) = 0 := by
        unfold nin nst sup
        rw [if_neg (by omega), if_pos (Nat.le_refl _), if_pos rfl]
        omega
      rw [e3, e1, e2, e4, if_pos (show nI 0 = (0 : Int32) from rfl), if_pos rfl]
      rfl
    | false =>
      have hd2 : ¬ ndone R Fm t T S = true := by rw [hd]; exact Bool.false_ne_true
      have e1 : nF R Fm t T S = Fm := if_neg hd2
      have e2 : nS R Fm t T S = S := if_neg hd2
      rw [e1, e2] at hN hC
      rw [e1, e2]
      have hsR := S_leR' h (Nat.le_refl Fm)
      have hm : nmk (R + 1) (tup T R t) (S Fm) ≤ 2 := nmk_le
      have hn : nin (R + 1) Fm S Fm = R + 1 - S Fm := (ninF hN.w).1
      have hn2 : nst (R + 1) Fm S Fm = S Fm := (ninF hN.w).2
      have et : ntk (R + 1) (tup T R t) R = t := by rw [tup_tk]; exact if_pos rfl
      rw [hn, if_neg (fun e => by have := (nI_eq0 (by omega)).mp e; omega), show nI (R + 1) - (1 : Int32) = nI R from pk_sub (show 1 ≤ R + 1 by omega), takenBy_c hN hC (by omega), kbs, et, markOf_c hN hC hF, kbs, hn2]
      have e3 : nkind R Fm t T S = if Fm < 9 then 2 else if t = 10 ∨ nmk (R + 1) (tup T R t) (S Fm) = 2 then 1 else 2 := if_neg hd2
      rw [e3]
      by_cases ct : t = 10
      · rw [if_pos ((nI_eq10 (by omega)).mpr ct)]
        have h9 : ¬ Fm < 9 := by
          intro h9
          unfold ndone at hd
          rw [if_pos h9] at hd
          simp only [Bool.or_eq_false_iff, decide_eq_false_iff_not] at hd
          rcases in_cases h hF with ⟨-, h3 | ⟨h3, h4⟩⟩ | ⟨h3, -⟩
          · have e5 := hd.1
            rw [← h3, nmk_first, if_pos ct] at e5
            exact e5 rfl
          · exact absurd (by omega) hd.2
          · omega
        rw [if_neg h9, if_pos (Or.inl ct)]
        rfl
      · rw [if_neg (fun e => ct ((nI_eq10 (by omega)).mp e))]
        by_cases cm : nmk (R + 1) (tup T R t) (S Fm) = 2
        · rw [if_pos ((nI_eq2 (by omega)).mpr cm)]
          have h9 : ¬ Fm < 9 := by
            intro h9
            unfold ndone at hd
            rw [if_pos h9] at hd
            simp only [Bool.or_eq_false_iff, decide_eq_false_iff_not] at hd
            rcases in_cases h hF with ⟨-, h3 | ⟨h3, h4⟩⟩ | ⟨h3, -⟩
            · rw [← h3, nmk_first, if_neg ct] at cm
              omega
            · exact absurd (by omega) hd.2
            · omega
          rw [if_neg h9, if_pos (Or.inr cm)]
          rfl
        · rw [if_neg (fun e => cm ((nI_eq2 (by omega)).mp e))]
          by_cases h9 : Fm < 9
          · rw [if_pos h9, if_neg (by omega)]
            rfl
          · rw [if_neg h9, if_neg (show ¬ (t = 10 ∨ nmk (R + 1) (tup T R t) (S Fm) = 2) from fun e => e.elim ct cm), if_neg (by omega)]
            rfl
theorem goOn_m {r : kF} (h : SInv R Fm T S) (hF : Fm < 10) {t : Nat} (ht : t ≤ 10) (hM : MSH (R + 1) Fm (tup T R t) S r) :
    ∃ r1, fn_X8_goOn r = kgo (nkind R Fm t T S) r1 ∧ MSH (R + 1) (nF R Fm t T S) (tup T R t) (nS R Fm t T S) r1 ∧ ∀ i, (i < 30 ∨ 73 ≤ i) → r1 i = r i := by
  have hR := R_le20 h hF
  have hW := SW_add h hF ht
  have e52 := hM.2.1
  have e51 := hM.1
  have hsR := S_leR' h (Nat.le_refl Fm)
  have hn := (ninF hW).1
  have hm : nmk (R + 1) (tup T R t) (S Fm) ≤ 2 := nmk_le
  unfold fn_X8_goOn
  rw [e52, show (63 : Int32) = nI 63 from rfl, ix_add, if_neg (nI_in (N := 79) (by omega) (by omega)), nI_clamp (by omega), markF hW hM hF, kbs, hM.2.2.2.2 Fm hF, hn]
  by_cases h9 : Fm < 9
  · rw [if_neg (show ¬ (9 : Int32) ≤ nI Fm from ix_ge (n := 9) h9 (by omega))]
    have hd34 : ndone R Fm t T S = true → ∃ r1, fn_X8_goOn_34 r = kgo (nkind R Fm t T S) r1 ∧ MSH (R + 1) (nF R Fm t T S) (tup T R t) (nS R Fm t T S) r1 ∧ ∀ i, (i < 30 ∨ 73 ≤ i) → r1 i = r i := by
      intro hd
      have e1 : nF R Fm t T S = Fm + 1 := if_pos hd
      have e2 : nS R Fm t T S = sup S (Fm + 1) (R + 1) := if_pos hd
      have e3 : nkind R Fm t T S = 1 := by unfold nkind; rw [if_pos hd, if_pos h9]
      rw [e1, e2, e3]
      refine ⟨_, ?_, MSH_done (by omega) h9 hM, fun i hi => ?_⟩
      · unfold fn_X8_goOn_34
        rw [upd_self, upd_ne (show 51 ≠ 52 by omega), e51, e52, nI_1, show (53 : Int32) = nI 53 from rfl, ix_add, if_neg (nI_in (N := 79) (by omega) (by omega)), nI_clamp (by omega)]
        rfl
      · rw [upd_ne (by omega), upd_ne (by omega)]
    by_cases c2 : R + 1 - S Fm = 2
    · rw [if_pos ((nI_eq2 (by omega)).mpr c2)]
      apply hd34
      unfold ndone
      rw [if_pos h9]
      simp [c2]
    · rw [if_neg (fun e => c2 ((nI_eq2 (by omega)).mp e))]
      by_cases c1 : nmk (R + 1) (tup T R t) (S Fm) = 1
      · rw [if_pos ((nI_eq1 (by omega)).mpr c1)]
        apply hd34
        unfold ndone
        rw [if_pos h9]
        simp [c1]
      · rw [if_neg (fun e => c1 ((nI_eq1 (by omega)).mp e))]
        have hd : ndone R Fm t T S = false := by
          unfold ndone
          rw [if_pos h9]
          simp [c1, c2]
        have hd2 : ¬ ndone R Fm t T S = true := by rw [hd]; exact Bool.false_ne_true
        have e1 : nF R Fm t T S = Fm := if_neg hd2
        have e2 : nS R Fm t T S = S := if_neg hd2
        have e3 : nkind R Fm t T S = 2 := by unfold nkind; rw [if_neg hd2, if_pos h9]
        rw [e1, e2, e3]
        exact ⟨r, rfl, hM, fun _ _ => rfl⟩
  · have e9 : Fm = 9 := by omega
    subst e9
    rw [if_pos (show (9 : Int32) ≤ nI 9 from Int32.le_refl _)]
    have hd83 : ndone R 9 t T S = true → ∃ r1, fn_X8_goOn_83 r = kgo (nkind R 9 t T S) r1 ∧ MSH (R + 1) (nF R 9 t T S) (tup T R t) (nS R 9 t T S) r1 ∧ ∀ i, (i < 30 ∨ 73 ≤ i) → r1 i = r i := by
      intro hd
      have e1 : nF R 9 t T S = 10 := if_pos hd
      have e2 : nS R 9 t T S = sup S 10 (R + 1) := if_pos hd
      have e3 : nkind R 9 t T S = 0 := by unfold nkind; rw [if_pos hd, if_neg h9]
      rw [e1, e2, e3]
      refine ⟨_, ?_, MSH_last (by omega) hM, fun i hi => ?_⟩
      · unfold fn_X8_goOn_83
        rw [e52, nI_1]
        rfl
      · rw [upd_ne (by omega)]
    have hd94 : ndone R 9 t T S = false → ∃ r1, fn_X8_goOn_94 r (nI 9) (nI (R + 1 - S 9)) (nI (nmk (R + 1) (tup T R t) (S 9))) = kgo (nkind R 9 t T S) r1 ∧ MSH (R + 1) (nF R 9 t T S) (tup T R t) (nS R 9 t T S) r1 ∧ ∀ i, (i < 30 ∨ 73 ≤ i) → r1 i = r i := by
      intro hd
      have hd2 : ¬ ndone R 9 t T S = true := by rw [hd]; exact Bool.false_ne_true
      have e1 : nF R 9 t T S = 9 := if_neg hd2
      have e2 : nS R 9 t T S = S := if_neg hd2
      have e3 : nkind R 9 t T S = if t = 10 ∨ nmk (R + 1) (tup T R t) (S 9) = 2 then 1 else 2 := by unfold nkind; rw [if_neg hd2, if_neg h9]
      rw [e1, e2, e3]
      refine ⟨r, ?_, hM, fun _ _ => rfl⟩
      unfold ndone at hd
      rw [if_neg h9] at hd
      simp only [Bool.or_eq_false_iff, Bool.and_eq_false_iff, decide_eq_false_iff_not] at hd
      unfold fn_X8_goOn_94
      rcases in_cases h hF with ⟨h3, -⟩ | ⟨-, h3 | h3 | ⟨h3, -⟩⟩
      · omega
      · have ec : R + 1 - S 9 = 1 := by omega
        rw [ec, if_pos (show nI 1 = (1 : Int32) from rfl)]
        have em : nmk (R + 1) (tup T R t) (S 9) = if t = 10 then 1 else 0 := by rw [← h3]; exact nmk_first
        rw [em]
        by_cases ct : t = 10
        · rw [if_pos ct, if_pos (show nI 1 = (1 : Int32) from rfl), if_pos (Or.inl ct)]
          rfl
        · rw [if_neg ct, if_neg (show ¬ nI 0 = (1 : Int32) by decide), if_neg (show ¬ (t = 10 ∨ 0 = 2) from fun e => e.elim ct (by omega))]
          rfl
      · have ec : R + 1 - S 9 = 2 := by omega
        rw [ec, if_neg (show ¬ nI 2 = (1 : Int32) by decide)]
        by_cases cm : nmk (R + 1) (tup T R t) (S 9) = 2
        · rw [if_pos ((nI_eq2 (by omega)).mpr cm), if_pos (Or.inr cm)]
          rfl
        · have et : ntk (R + 1) (tup T R t) (S 9 + 1) = t := by rw [tup_tk]; exact if_pos h3.symm
          rw [if_neg (fun e => cm ((nI_eq2 (by omega)).mp e)), show fn_X8_rollOf r (nI 9) 1 = _ from rollF (i := 1) hW hM hF (by omega), kbs, et]
          by_cases ct : t = 10
          · rw [if_pos ((nI_eq10 (by omega)).mpr ct), if_pos (Or.inl ct)]
            rfl
          · rw [if_neg (fun e => ct ((nI_eq10 (by omega)).mp e)), if_neg (show ¬ (t = 10 ∨ nmk (R + 1) (tup T R t) (S 9) = 2) from fun e => e.elim ct cm)]
            rfl
      · exact absurd (by omega) hd.2
    by_cases c3 : R + 1 - S 9 = 3
    · rw [if_pos ((nI_eq3 (by omega)).mpr c3)]
      apply hd83
      unfold ndone
      rw [if_neg h9]
      simp [c3]
    · rw [if_neg (fun e => c3 ((nI_eq3 (by rcases in_cases h hF with ⟨h3, -⟩ | ⟨-, h3 | h3 | ⟨h3, -⟩⟩ <;> omega)).mp e))]
      by_cases c2 : R + 1 - S 9 = 2
      · rw [if_pos ((nI_eq2 (by omega)).mpr c2)]
        by_cases c0 : nmk (R + 1) (tup T R t) (S 9) = 0
        · rw [if_pos ((nI_eq0 (by omega)).mpr c0)]
          apply hd83
          unfold ndone
          rw [if_neg h9]
          simp [c2, c0]
        · rw [if_neg (fun e => c0 ((nI_eq0 (by omega)).mp e))]
          apply hd94
          unfold ndone
          rw [if_neg h9]
          simp [c2, c0]
      · rw [if_neg (fun e => c2 ((nI_eq2 (by omega)).mp e))]
        apply hd94
        unfold ndone
        rw [if_neg h9]
        simp [c2, c3]
end GO
