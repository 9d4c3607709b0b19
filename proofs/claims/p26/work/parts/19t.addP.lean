/-! a roll is written down: class and reference -/
/-- what holds also while a roll is being written -/
def SW (R Fm : Nat) (T S : Nat → Nat) : Prop := Fm ≤ 10 ∧ R ≤ 21 ∧ (∀ i, i < R → T i ≤ 10) ∧ (∀ f, nst R Fm S f ≤ R) ∧ (∀ f, nst R Fm S f ≤ nst R Fm S (f + 1)) ∧ ∀ f, f < 10 → nin R Fm S f ≤ 3
theorem SInv.w {R Fm : Nat} {T S : Nat → Nat} (h : SInv R Fm T S) : SW R Fm T S := ⟨h.1, R_le h, h.2.2.1, nst_le h, nst_mono h, fun _ hf => nin_le h hf⟩
section AD
variable {R Fm : Nat} {T S : Nat → Nat}
theorem ntk_leW (h : SW R Fm T S) (i : Nat) : ntk R T i ≤ 10 := by
  unfold ntk
  split
  · exact h.2.2.1 i (by assumption)
  · omega
theorem startOf_cW {rolls frm : Int32} {tk sr : kF} (h : SW R Fm T S) (hC : CSH R Fm T S rolls frm tk sr) {f : Nat} (hf : f ≤ 10) : fn_X4_startOf rolls frm sr (nI f) = some (nI (nst R Fm S f)) := by
  obtain ⟨rfl, rfl, -, hs⟩ := hC
  have hF := h.1
  unfold fn_X4_startOf
  rw [if_neg (ix_neg (by omega)), if_neg (show ¬ (10 : Int32) < nI f from nI_nlt (a := 10) hf (by omega))]
  by_cases h1 : f ≤ Fm
  · rw [if_neg (nI_nlt h1 (by omega)), if_neg (nI_in (N := 11) (by omega) (by omega)), nI_clamp (by omega), hs f h1]
    unfold nst
    rw [if_pos h1]
    rfl
  · rw [if_pos (nI_lt (by omega) (by omega))]
    unfold nst
    rw [if_neg h1]
    rfl
theorem takenBy_cW {rolls frm : Int32} {tk sr : kF} (h : SW R Fm T S) (hC : CSH R Fm T S rolls frm tk sr) {i : Nat} (hi : i < 100) : fn_X4_takenBy rolls tk (nI i) = some (nI (ntk R T i)) := by
  obtain ⟨rfl, -, ht, -⟩ := hC
  have hR := h.2.1
  unfold fn_X4_takenBy ntk
  rw [if_neg (ix_neg (by omega))]
  by_cases h1 : i < R
  · rw [if_neg (nI_ge h1 (by omega)), if_neg (show ¬ (21 : Int32) ≤ nI i from ix_ge (n := 21) (by omega) (by omega)), if_neg (nI_in (N := 21) (by omega) (by omega)), nI_clamp (by omega), ht i h1, if_pos h1]
    rfl
  · rw [if_pos (nI_le (by omega) (by omega)), if_neg h1]
    rfl
theorem rollsIn_cW {rolls frm : Int32} {tk sr : kF} (h : SW R Fm T S) (hC : CSH R Fm T S rolls frm tk sr) {f : Nat} (hf : f < 10) : fn_X4_rollsIn rolls frm sr (nI f) = some (nI (nin R Fm S f)) := by
  unfold fn_X4_rollsIn
  rw [nI_1, startOf_cW h hC (by omega), kbs, startOf_cW h hC (by omega), kbs, pk_sub (h.2.2.2.2.1 f)]
  rfl
theorem markOf_cW {rolls frm : Int32} {tk sr : kF} (h : SW R Fm T S) (hC : CSH R Fm T S rolls frm tk sr) {f : Nat} (hf : f < 10) : fn_X4_markOf rolls frm tk sr (nI f) = some (nI (nmk R T (nst R Fm S f))) := by
  have h1 := h.2.2.2.1 f
  have hR := h.2.1
  have t0 := ntk_leW h (nst R Fm S f)
  have t1 := ntk_leW h (nst R Fm S f + 1)
  unfold fn_X4_markOf nmk
  rw [startOf_cW h hC (by omega), kbs, takenBy_cW h hC (by omega), kbs, nI_1, takenBy_cW h hC (by omega), kbs, kbs, ix_add]
  by_cases c : ntk R T (nst R Fm S f) = 10
  · rw [if_pos ((nI_eq10 (by omega)).mpr c), if_pos c]; rfl
  · rw [if_neg (fun e => c ((nI_eq10 (by omega)).mp e)), if_neg c]
    by_cases c2 : ntk R T (nst R Fm S f) + ntk R T (nst R Fm S f + 1) = 10
    · rw [if_pos ((nI_eq10 (by omega)).mpr c2), if_pos c2]; rfl
    · rw [if_neg (fun e => c2 ((nI_eq10 (by omega)).mp e)), if_neg c2]; rfl
theorem rollOf_mW {r : kF} (h : SW R Fm T S) (hM : MSH R Fm T S r) {f i : Nat} (hf : f < 10) (hi : i < 3) : fn_X8_rollOf r (nI f) (nI i) = some (nI (if i < nin R Fm S f then ntk R T (nst R Fm S f + i) else 0)) := by
  obtain ⟨-, -, ht, hs, hn⟩ := hM
  have hR := h.2.1
  have hn3 := h.2.2.2.2.2 f hf
  unfold fn_X8_rollOf
  rw [show (63 : Int32) = nI 63 from rfl, show (53 : Int32) = nI 53 from rfl, show (30 : Int32) = nI 30 from rfl, ix_add, ix_add, if_neg (nI_in (N := 79) (by omega) (by omega)), nI_clamp (by omega), hn f hf]
  by_cases c : i < nin R Fm S f
  · have hfF : f ≤ Fm := by
      rcases Nat.lt_or_ge Fm f with z | z
      · have e : nin R Fm S f = 0 := by unfold nin nst; rw [if_neg (by omega), if_neg (by omega)]; omega
        omega
      · exact z
    have e : nst R Fm S f = S f := if_pos hfF
    have hlt : S f + i < R := by
      have := h.2.2.2.1 (f + 1)
      unfold nin at c
      rw [e] at c
      omega
    rw [if_neg (nI_ge c (by omega)), if_neg (nI_in (N := 79) (by omega) (by omega)), nI_clamp (by omega), hs f hf hfF, ix_add, ix_add, if_neg (nI_in (N := 79) (by omega) (by omega)), nI_clamp (by omega), if_pos c, e, show 30 + S f + i = 30 + (S f + i) by omega, ht _ hlt]
    unfold ntk
    rw [if_pos hlt]
    rfl
  · rw [if_pos (nI_le (by omega) (by omega)), if_neg c]
    rfl
theorem ninF (h : SW R Fm T S) : nin R Fm S Fm = R - S Fm ∧ nst R Fm S Fm = S Fm := by
  have e : nst R Fm S Fm = S Fm := if_pos (Nat.le_refl _)
  refine ⟨?_, e⟩
  unfold nin
  rw [e]
  unfold nst
  rw [if_neg (by omega)]
theorem rollF_m (h : SW R Fm T S) (i : Nat) : (if i < nin R Fm S Fm then ntk R T (nst R Fm S Fm + i) else 0) = ntk R T (S Fm + i) := by
  obtain ⟨e1, e2⟩ := ninF h
  rw [e1, e2]
  by_cases c : i < R - S Fm
  · rw [if_pos c]
  · rw [if_neg c]
    unfold ntk
    rw [if_neg (by omega)]
theorem rollF {r : kF} (h : SW R Fm T S) (hM : MSH R Fm T S r) (hF : Fm < 10) {i : Nat} (hi : i < 3) : fn_X8_rollOf r (nI Fm) (nI i) = some (nI (ntk R T (S Fm + i))) := by
  rw [rollOf_mW h hM hF hi, rollF_m h]
theorem markF {r : kF} (h : SW R Fm T S) (hM : MSH R Fm T S r) (hF : Fm < 10) : fn_X8_markOf r (nI Fm) = some (nI (nmk R T (S Fm))) := by
  have t0 := ntk_leW h (S Fm)
  have t1 := ntk_leW h (S Fm + 1)
  unfold fn_X8_markOf nmk
  rw [show (0 : Int32) = nI 0 from rfl, show (1 : Int32) = nI 1 from rfl, rollF h hM hF (by omega), kbs, rollF h hM hF (by omega), kbs, kbs, Nat.add_zero]
  by_cases c : ntk R T (S Fm) = 10
  · rw [if_pos ((nI_eq10 (by omega)).mpr c), if_pos c]; rfl
  · rw [if_neg (fun e => c ((nI_eq10 (by omega)).mp e)), if_neg c, ix_add]
    by_cases c2 : ntk R T (S Fm) + ntk R T (S Fm + 1) = 10
    · rw [if_pos ((nI_eq10 (by omega)).mpr c2), if_pos c2]; rfl
    · rw [if_neg (fun e => c2 ((nI_eq10 (by omega)).mp e)), if_neg c2]; rfl
/-- one roll more -/
def tup (T : Nat → Nat) (R t : Nat) : Nat → Nat := fun i => if i = R then t else T i
theorem tup_tk {t i : Nat} : ntk (R + 1) (tup T R t) i = if i = R then t else ntk R T i := by
  unfold ntk tup
  by_cases e : i = R
  · subst e; simp
  · simp only [if_neg e]
    by_cases c : i < R
    · rw [if_pos (by omega), if_pos c]
    · rw [if_neg (by omega), if_neg c]
theorem SW_add (h : SInv R Fm T S) (hF : Fm < 10) {t : Nat} (ht : t ≤ 10) : SW (R + 1) Fm (tup T R t) S := by
  have hR := R_le20 h hF
  have e0 : ∀ f, nst (R + 1) Fm S f = if f ≤ Fm then S f else R + 1 := fun f => rfl
  have hle : ∀ f, nst (R + 1) Fm S f ≤ R + 1 := fun f => by
    rw [e0]
    split
    · have := S_leR' h (f := f) (by assumption); omega
    · omega
  refine ⟨h.1, by omega, fun i hi => ?_, hle, fun f => ?_, fun f hf => ?_⟩
  · unfold tup
    split
    · exact ht
    · exact h.2.2.1 i (by omega)
  · have := nst_mono h f
    by_cases c : f + 1 ≤ Fm
    · rw [e0, e0, if_pos c, if_pos (by omega)]
      have := S_step h (f := f) (by omega)
      omega
    · have e1 : nst (R + 1) Fm S (f + 1) = R + 1 := if_neg c
      rw [e1]
      exact hle f
  · have hn := nin_le h hf
    by_cases c : f + 1 ≤ Fm
    · have e1 : nin (R + 1) Fm S f = nin R Fm S f := by unfold nin nst; rw [if_pos c, if_pos (show f ≤ Fm by omega), if_pos c, if_pos (show f ≤ Fm by omega)]
      omega
    · by_cases c2 : f = Fm
      · have e1 : nin (R + 1) Fm S f = R + 1 - S f := by unfold nin nst; rw [if_neg c, if_pos (by omega)]
        have hs : R ≤ S f + 2 := by
          subst c2
          by_cases h9 : f = 9
          · subst h9
            rcases h.2.2.2.2.2.2.2 rfl with h3 | h3 | ⟨h3, -⟩ <;> omega
          · rcases h.2.2.2.2.2.2.1 (by omega) with h3 | ⟨h3, -⟩ <;> omega
        omega
      · have e1 : nin (R + 1) Fm S f = R + 1 - (R + 1) := by unfold nin nst; rw [if_neg c, if_neg (by omega)]
        omega
/-- whether the frame is done with this roll -/
def ndone (R Fm t : Nat) (T S : Nat → Nat) : Bool := if Fm < 9 then decide (nmk (R + 1) (tup T R t) (S Fm) = 1) || decide (R + 1 - S Fm = 2) else (decide (nmk (R + 1) (tup T R t) (S Fm) = 0) && decide (R + 1 - S Fm = 2)) || decide (R + 1 - S Fm = 3)
def sup (S : Nat → Nat) (f x : Nat) : Nat → Nat := fun g => if g = f then x else S g
theorem in_cases (h : SInv R Fm T S) (hF : Fm < 10) : (Fm < 9 ∧ (R = S Fm ∨ (R = S Fm + 1 ∧ T (S Fm) ≠ 10))) ∨ (Fm = 9 ∧ (R = S 9 ∨ R = S 9 + 1 ∨ (R = S 9 + 2 ∧ nmk R T (S 9) ≠ 0))) := by
  by_cases h9 : Fm < 9
  · exact Or.inl ⟨h9, h.2.2.2.2.2.2.1 h9⟩
  · have : Fm = 9 := by omega
    exact Or.inr ⟨this, h.2.2.2.2.2.2.2 this⟩
theorem nmk_keep {t i : Nat} (hi : i + 1 < R) : nmk (R + 1) (tup T R t) i = nmk R T i := by
  have e1 : ntk (R + 1) (tup T R t) i = ntk R T i := by rw [tup_tk]; exact if_neg (by omega)
  have e2 : ntk (R + 1) (tup T R t) (i + 1) = ntk R T (i + 1) := by rw [tup_tk]; exact if_neg (by omega)
  unfold nmk
  rw [e1, e2]
theorem nmk_first {t : Nat} : nmk (R + 1) (tup T R t) R = if t = 10 then 1 else 0 := by
  have e1 : ntk (R + 1) (tup T R t) R = t := by rw [tup_tk]; exact if_pos rfl
  have e2 : ntk (R + 1) (tup T R t) (R + 1) = 0 := if_neg (by omega)
  unfold nmk
  rw [e1, e2]
  by_cases c : t = 10
  · rw [if_pos c, if_pos c]
  · rw [if_neg c, if_neg c, if_neg (by omega)]
theorem nmk_second {t : Nat} (i : Nat) (hi : R = i + 1) : nmk (R + 1) (tup T R t) i = if T i = 10 then 1 else if T i + t = 10 then 2 else 0 := by
  have e1 : ntk (R + 1) (tup T R t) i = T i := by
    rw [tup_tk, if_neg (show ¬ i = R by omega)]
    exact if_pos (by omega)
  have e2 : ntk (R + 1) (tup T R t) (i + 1) = t := by rw [tup_tk]; exact if_pos hi.symm
  unfold nmk
  rw [e1, e2]
/-- behind the roll -/
theorem SInv_add (h : SInv R Fm T S) (hF : Fm < 10) {t : Nat} (ht : t ≤ 10) : SInv (R + 1) (if ndone R Fm t T S then Fm + 1 else Fm) (tup T R t) (if ndone R Fm t T S then sup S (Fm + 1) (R + 1) else S) := by
  have hT : ∀ i, i < R + 1 → tup T R t i ≤ 10 := (SW_add h hF ht).2.2.1
  have hSR := S_leR' h (Nat.le_refl Fm)
  have hold : ∀ f, f < Fm → f < 9 → (tup T R t (S f) = 10 ∧ S (f + 1) = S f + 1) ∨ (tup T R t (S f) ≠ 10 ∧ S (f + 1) = S f + 2) := by
    intro f h1 h2
    have hlt : S f < R := by have := S_step h h1; have := S_leR' h (f := f + 1) (by omega); omega
    have e : tup T R t (S f) = T (S f) := if_neg (by omega)
    rw [e]
    exact h.2.2.2.1 f h1 h2
  cases hd : ndone R Fm t T S with
  | false =>
    simp only [Bool.false_eq_true, if_false]
    unfold ndone at hd
    refine ⟨h.1, h.2.1, hT, hold, by omega, fun e => by omega, fun h9 => ?_, fun h9 => ?_⟩
    · rw [if_pos h9] at hd
      simp only [Bool.or_eq_false_iff, decide_eq_false_iff_not] at hd
      rcases in_cases h hF with ⟨-, h3 | ⟨h3, h4⟩⟩ | ⟨h3, -⟩
      · right
        refine ⟨by omega, ?_⟩
        have e1 := hd.1
        rw [← h3, nmk_first] at e1
        have e2 : tup T R t (S Fm) = t := if_pos h3.symm
        rw [e2]
        intro e3
        rw [if_pos e3] at e1
        exact e1 rfl
      · exact absurd (by omega) hd.2
      · omega
    · rw [if_neg (by omega)] at hd
      simp only [Bool.or_eq_false_iff, Bool.and_eq_false_iff, decide_eq_false_iff_not] at hd
      subst h9
      rcases in_cases h hF with ⟨h3, -⟩ | ⟨-, h3 | h3 | ⟨h3, -⟩⟩
      · omega
      · right; left; omega
      · right; right
        refine ⟨by omega, ?_⟩
        rcases hd.1 with e1 | e1
        · exact e1
        · omega
      · omega
  | true =>
    simp only [if_true]
    unfold ndone at hd
    have e0 : sup S (Fm + 1) (R + 1) (Fm + 1) = R + 1 := if_pos rfl
    have e1 : ∀ f, f ≤ Fm → sup S (Fm + 1) (R + 1) f = S f := fun f hf => if_neg (by omega)
    refine ⟨by omega, ?_, hT, fun f h1 h2 => ?_, by rw [e0]; exact Nat.le_refl _, fun h10 => ?_, fun h9 => Or.inl (by rw [e0]), fun h9 => ?_⟩
    · rw [e1 0 (by omega)]; exact h.2.1
    · rw [e1 f (by omega)]
      by_cases c : f < Fm
      · rw [e1 (f + 1) (by omega)]
        exact hold f c h2
      · have hf : f = Fm := by omega
        subst hf
        rw [e0]
        rw [if_pos h2] at hd
        simp only [Bool.or_eq_true, decide_eq_true_eq] at hd
        rcases in_cases h hF with ⟨-, h3 | ⟨h3, h4⟩⟩ | ⟨h3, -⟩
        · left
          rcases hd with hd | hd
          · rw [← h3, nmk_first] at hd
            have e2 : tup T R t (S f) = t := if_pos h3.symm
            rw [e2]
            by_cases c10 : t = 10
            · exact ⟨c10, by omega⟩
            · rw [if_neg c10] at hd; omega
          · omega
        · right
          have e2 : tup T R t (S f) = T (S f) := if_neg (by omega)
          rw [e2]
          exact ⟨h4, by omega⟩
        · omega
    · have hF9 : Fm = 9 := by omega
      subst hF9
      rw [if_neg (by omega)] at hd
      simp only [Bool.or_eq_true, Bool.and_eq_true, decide_eq_true_eq] at hd
      rw [e1 9 (by omega)]
      refine ⟨by rw [show (10 : Nat) = 9 + 1 from rfl, e0], ?_⟩
      rcases hd with ⟨hd1, hd2⟩ | hd
      · left; exact ⟨hd1, by omega⟩
      · right
        rcases in_cases h hF with ⟨h3, -⟩ | ⟨-, h3 | h3 | ⟨h3, h4⟩⟩
        · omega
        · omega
        · omega
        · rw [nmk_keep (by omega)]
          exact ⟨h4, by omega⟩
    · left
      have hF8 : Fm = 8 := by omega
      subst hF8
      exact e0.symm
end AD
