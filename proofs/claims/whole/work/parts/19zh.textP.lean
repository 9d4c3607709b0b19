/-! the text: class and reference -/
def XRel (len : Int32) (sg : kF) (msize : Int32) (mtext : kF) : Prop := ∃ n : Nat, n ≤ 120 ∧ len = nI n ∧ msize = nI n ∧ ∀ i, i < n → sg i = mtext i ∧ 0 ≤ sg i ∧ sg i ≤ 255
theorem sim_append {len msize ref x1 : Int32} {sg mtext : kF} (h : XRel len sg msize mtext) : ∃ (a len' msize' : Int32) (sg' mtext' : kF),
    ((fn_X7_append len sg x1 = some (1, 0, len, sg) ∧ fn_X8_append ref msize mtext x1 = some (0, 1, msize, mtext)) ∨
     (fn_X7_append len sg x1 = some (2, 0, len, sg) ∧ fn_X8_append ref msize mtext x1 = some (0, 2, msize, mtext)) ∨
     (fn_X7_append len sg x1 = some (0, a, len', sg') ∧ fn_X8_append ref msize mtext x1 = some (a, 0, msize', mtext') ∧ XRel len' sg' msize' mtext')) := by
  obtain ⟨n, hn, rfl, rfl, hs⟩ := h
  unfold fn_X7_append fn_X8_append
  rw [in_0_255, kbs]
  by_cases c : 0 ≤ x1 ∧ x1 ≤ 255
  · rw [if_neg (Int32.not_lt.mpr c.1), if_pos c.2, if_pos c, if_neg n10]
    by_cases cn : n = 120
    · subst cn
      refine ⟨0, 0, 0, sg, sg, Or.inr (Or.inl ⟨?_, ?_⟩)⟩
      · rw [show fn_X0_isFull (nI 120) = some 1 from rfl, kbs, if_neg n10]
      · rw [if_pos (show nI 120 = (120 : Int32) from rfl)]
        unfold fn_X8_append_31
        rw [refused_m, kbs, if_neg nl2, if_neg n10]
    · have hlt : nI n < (120 : Int32) := nI_lt (b := 120) (by omega) (by omega)
      refine ⟨nI (n + 1), nI (n + 1), nI (n + 1), upd sg n x1, upd mtext n x1, Or.inr (Or.inr ⟨?_, ?_, n + 1, by omega, rfl, rfl, fun i hi => ?_⟩)⟩
      · unfold fn_X0_isFull
        rw [if_pos hlt]
        show (fn_X0_add (nI n) sg x1).bind _ = _
        unfold fn_X0_add
        rw [if_neg (ix_neg (by omega)), if_neg (show ¬ (120 : Int32) ≤ nI n from ix_ge (n := 120) (by omega) (by omega)), if_neg (nI_in (N := 120) (by omega) (by omega)), nI_clamp (by omega), nI_1]
        rfl
      · rw [if_neg (show ¬ nI n = (120 : Int32) from fun e => cn ((nI_eq (b := 120) (by omega) (by omega)).mp e))]
        unfold fn_X8_append_31
        rw [refused_m, kbs, if_pos (Int32.le_refl _), if_pos rfl, if_neg (nI_in (N := 120) (by omega) (by omega)), nI_clamp (by omega), nI_1]
      · by_cases ci : i = n
        · subst ci
          rw [upd_self, upd_self]
          exact ⟨rfl, c⟩
        · rw [upd_ne ci, upd_ne ci]
          exact hs i (by omega)
  · refine ⟨0, 0, 0, sg, sg, Or.inl ⟨?_, ?_⟩⟩
    · by_cases c1 : x1 < 0
      · rw [if_pos c1]; rfl
      · rw [if_neg c1, if_neg (fun z => c ⟨Int32.not_lt.mp c1, z⟩)]; rfl
    · rw [if_neg c, if_pos rfl]
      unfold fn_X8_append_31
      rw [refused_m, kbs, if_neg nl1, if_neg n10]
theorem XRel.clear {len msize : Int32} {sg mtext : kF} : XRel 0 sg 0 mtext := ⟨0, by omega, rfl, rfl, fun i hi => absurd hi (Nat.not_lt_zero i)⟩
theorem XRel.len {len msize : Int32} {sg mtext : kF} (h : XRel len sg msize mtext) : len = msize := by
  obtain ⟨n, hn, rfl, rfl, hs⟩ := h
  rfl
/-- the sign at a place -/
def sgn (n : Nat) (S : kF) (i : Nat) : Int32 := if i < n then S i else -1
theorem signAt_c {n i : Nat} {S : kF} (hn : n ≤ 120) (hi : i < 1000) : fn_X0_signAt (nI n) S (nI i) = some (sgn n S i) := by
  unfold fn_X0_signAt sgn
  rw [if_neg (ix_neg (by omega))]
  by_cases c : i < n
  · rw [if_neg (nI_ge c (by omega)), if_neg (show ¬ (120 : Int32) ≤ nI i from ix_ge (n := 120) (by omega) (by omega)), if_neg (nI_in (N := 120) (by omega) (by omega)), nI_clamp (by omega), if_pos c]
    rfl
  · rw [if_pos (nI_le (by omega) (by omega)), if_neg c]
    rfl
theorem at_m {n i : Nat} {S : kF} (hn : n ≤ 120) (hi : i < 1000) : fn_X8_at (nI n) S (nI i) = some (sgn n S i) := by
  unfold fn_X8_at sgn
  by_cases c : i < n
  · rw [if_neg (nI_ge c (by omega)), if_neg (nI_in (N := 120) (by omega) (by omega)), nI_clamp (by omega), if_pos c]
    rfl
  · rw [if_pos (nI_le (by omega) (by omega)), if_neg c]
    rfl
theorem sgn_nat {n i : Nat} {S : kF} (h : ∀ i, i < n → 0 ≤ S i ∧ S i ≤ 255) : ∃ m : Nat, m < 257 ∧ sgn n S i = nI m - 1 := by
  unfold sgn
  by_cases c : i < n
  · obtain ⟨j, hj, e⟩ := nat_of (n := 255) (by omega) (h i c)
    rw [if_pos c, e]
    exact ⟨j + 1, by omega, (nI_pred j).symm⟩
  · rw [if_neg c]
    exact ⟨0, by omega, by decide⟩
theorem sgn_congr {n : Nat} {S T : kF} (h : ∀ i, i < n → S i = T i) (i : Nat) : sgn n S i = sgn n T i := by
  unfold sgn
  by_cases c : i < n
  · rw [if_pos c, if_pos c, h i c]
  · rw [if_neg c, if_neg c]
/-- a step of reading figures -/
def figOK (c hi lo x3 x4 : Int32) : Bool := decide (0 ≤ c - 48 ∧ c - 48 ≤ 9) && (!decide (hi < x3 + (c - 48) * x4) && decide (lo ≤ x3 + (c - 48) * x4 + x4 - 1))
theorem fig_step {n i q : Nat} {S : kF} {lo hi x3 x4 : Int32} (hn : n ≤ 120) (hi2 : i < 1000) (h4 : ¬ x4 ≤ 0) : fn_X8_figures_6 (q + 1) (nI n) (nI i) S lo hi x3 x4 = if figOK (sgn n S i) hi lo x3 x4 = true then fn_X8_figures_6 q (nI n) (nI (i + 1)) S lo hi (x3 + (sgn n S i - 48) * x4) (x4 / 10) else some (-1, nI i) := by
  show (if x4 ≤ 0 then _ else (fn_X8_at (nI n) S (nI i)).bind _) = _
  rw [if_neg h4, at_m hn hi2, kbs, show fn_X8_in (sgn n S i - (48 : Int32)).toInt64 0 9 = _ from in_0_9, kbs, nI_1]
  unfold figOK
  by_cases c : 0 ≤ sgn n S i - 48 ∧ sgn n S i - 48 ≤ 9
  · rw [if_pos c, if_neg n10]
    simp only [decide_eq_true c, Bool.true_and]
    by_cases d : hi < x3 + (sgn n S i - 48) * x4
    · rw [if_pos d]
      simp only [decide_eq_true d, Bool.not_true, Bool.false_and, Bool.false_eq_true, if_false]
      rfl
    · rw [if_neg d]
      simp only [decide_eq_false d, Bool.not_false, Bool.true_and, decide_eq_true_eq]
      by_cases e : lo ≤ x3 + (sgn n S i - 48) * x4 + x4 - 1
      · rw [if_pos e, if_pos e]
      · rw [if_neg e, if_neg e]
        rfl
  · rw [if_neg c, if_pos rfl]
    simp only [decide_eq_false c, Bool.false_and, Bool.false_eq_true, if_false]
    rfl
