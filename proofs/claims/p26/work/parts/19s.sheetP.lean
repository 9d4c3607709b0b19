/-! sheets: class and reference -/
def nst (R Fm : Nat) (S : Nat → Nat) (f : Nat) : Nat := if f ≤ Fm then S f else R
def ntk (R : Nat) (T : Nat → Nat) (i : Nat) : Nat := if i < R then T i else 0
def nin (R Fm : Nat) (S : Nat → Nat) (f : Nat) : Nat := nst R Fm S (f + 1) - nst R Fm S f
def nmk (R : Nat) (T : Nat → Nat) (i : Nat) : Nat := if ntk R T i = 10 then 1 else if ntk R T i + ntk R T (i + 1) = 10 then 2 else 0
def npt (R : Nat) (T : Nat → Nat) (i : Nat) : Nat := ntk R T i + ntk R T (i + 1) + (if nmk R T i = 0 then 0 else ntk R T (i + 2))
def npts (R Fm : Nat) (T S : Nat → Nat) : Nat → Nat
  | 0 => 0
  | n + 1 => npts R Fm T S n + npt R T (nst R Fm S n)
def SInv (R Fm : Nat) (T S : Nat → Nat) : Prop := Fm ≤ 10 ∧ S 0 = 0 ∧ (∀ i, i < R → T i ≤ 10) ∧ (∀ f, f < Fm → f < 9 → (T (S f) = 10 ∧ S (f + 1) = S f + 1) ∨ (T (S f) ≠ 10 ∧ S (f + 1) = S f + 2)) ∧ S Fm ≤ R ∧
  (Fm = 10 → S 10 = R ∧ ((nmk R T (S 9) = 0 ∧ R = S 9 + 2) ∨ (nmk R T (S 9) ≠ 0 ∧ R = S 9 + 3))) ∧ (Fm < 9 → R = S Fm ∨ (R = S Fm + 1 ∧ T (S Fm) ≠ 10)) ∧ (Fm = 9 → R = S 9 ∨ R = S 9 + 1 ∨ (R = S 9 + 2 ∧ nmk R T (S 9) ≠ 0))
/-- what the class's sheet says -/
def CSH (R Fm : Nat) (T S : Nat → Nat) (rolls frm : Int32) (tk sr : kF) : Prop := rolls = nI R ∧ frm = nI Fm ∧ (∀ i, i < R → tk i = nI (T i)) ∧ ∀ f, f ≤ Fm → sr f = nI (S f)
/-- what the row says -/
def MSH (R Fm : Nat) (T S : Nat → Nat) (r : kF) : Prop := r 51 = nI R ∧ r 52 = nI Fm ∧ (∀ i, i < R → r (30 + i) = nI (T i)) ∧ (∀ f, f < 10 → f ≤ Fm → r (53 + f) = nI (S f)) ∧ ∀ f, f < 10 → r (63 + f) = nI (nin R Fm S f)
section SH
variable {R Fm : Nat} {T S : Nat → Nat}
theorem S_le (h : SInv R Fm T S) : ∀ f, f ≤ Fm → f ≤ 9 → S f ≤ 2 * f
  | 0, _, _ => by rw [h.2.1]; omega
  | f + 1, h1, h2 => by
    have ih := S_le h f (by omega) (by omega)
    rcases h.2.2.2.1 f (by omega) (by omega) with ⟨-, e⟩ | ⟨-, e⟩ <;> omega
theorem S_step (h : SInv R Fm T S) {f : Nat} (hf : f < Fm) : S f + 1 ≤ S (f + 1) := by
  by_cases h9 : f < 9
  · rcases h.2.2.2.1 f hf h9 with ⟨-, e⟩ | ⟨-, e⟩ <;> omega
  · have hF : Fm = 10 := by have := h.1; omega
    have hf9 : f = 9 := by omega
    subst hf9
    have e10 : S (9 + 1) = S 10 := rfl
    obtain ⟨e, h2⟩ := h.2.2.2.2.2.1 hF
    rcases h2 with ⟨-, h2⟩ | ⟨-, h2⟩ <;> omega
theorem S_leR (h : SInv R Fm T S) : ∀ (d f : Nat), f + d = Fm → S f ≤ R
  | 0, f, e => by have : f = Fm := by omega
                  subst this; exact h.2.2.2.2.1
  | d + 1, f, e => by
    have := S_leR h d (f + 1) (by omega)
    have := S_step h (f := f) (by omega)
    omega
theorem S_leR' (h : SInv R Fm T S) {f : Nat} (hf : f ≤ Fm) : S f ≤ R := S_leR h (Fm - f) f (by omega)
theorem R_le (h : SInv R Fm T S) : R ≤ 21 := by
  have hF := h.1
  by_cases h10 : Fm = 10
  · have h9 := S_le h 9 (by omega) (by omega)
    rcases (h.2.2.2.2.2.1 h10).2 with ⟨-, h2⟩ | ⟨-, h2⟩ <;> omega
  · by_cases h9 : Fm = 9
    · have h9' := S_le h 9 (by omega) (by omega)
      rcases h.2.2.2.2.2.2.2 h9 with h2 | h2 | ⟨h2, -⟩ <;> omega
    · have h8 := S_le h Fm (Nat.le_refl _) (by omega)
      rcases h.2.2.2.2.2.2.1 (by omega) with h2 | ⟨h2, -⟩ <;> omega
theorem R_le20 (h : SInv R Fm T S) (hF : Fm < 10) : R ≤ 20 := by
  by_cases h9 : Fm = 9
  · have h9' := S_le h 9 (by omega) (by omega)
    rcases h.2.2.2.2.2.2.2 h9 with h2 | h2 | ⟨h2, -⟩ <;> omega
  · have h8 := S_le h Fm (Nat.le_refl _) (by omega)
    rcases h.2.2.2.2.2.2.1 (by omega) with h2 | ⟨h2, -⟩ <;> omega
theorem ntk_le (h : SInv R Fm T S) (i : Nat) : ntk R T i ≤ 10 := by
  unfold ntk
  split
  · exact h.2.2.1 i (by assumption)
  · omega
theorem nst_le (h : SInv R Fm T S) (f : Nat) : nst R Fm S f ≤ R := by
  unfold nst
  split
  · exact S_leR' h (by assumption)
  · omega
theorem nst_mono (h : SInv R Fm T S) (f : Nat) : nst R Fm S f ≤ nst R Fm S (f + 1) := by
  by_cases h1 : f + 1 ≤ Fm
  · have := S_step h (f := f) (by omega)
    unfold nst
    rw [if_pos h1, if_pos (by omega)]
    omega
  · have := nst_le h f
    have e : nst R Fm S (f + 1) = R := if_neg h1
    omega
theorem startOf_c {rolls frm : Int32} {tk sr : kF} (h : SInv R Fm T S) (hC : CSH R Fm T S rolls frm tk sr) {f : Nat} (hf : f ≤ 10) : fn_X4_startOf rolls frm sr (nI f) = some (nI (nst R Fm S f)) := by
  obtain ⟨rfl, rfl, -, hs⟩ := hC
  have hF := h.1
  unfold fn_X4_startOf
  rw [if_neg (ix_neg (by omega)), if_neg (show ¬ (10 : Int32) < nI f from nI_nlt (a := 10) hf (by omega))]
  by_cases h1 : f ≤ Fm
  · rw [if_neg (nI_nlt h1 (by omega)), if_neg (nI_in (N := 11) (by omega) (by omega)), nI_clamp (by omega), hs f h1]
    unfold nst
    rw [if_pos h1]
    rfl
  · rw [if_pos (nI_lt (by omega) (by omega))]
    unfold nst
    rw [if_neg h1]
    rfl
theorem takenBy_c {rolls frm : Int32} {tk sr : kF} (h : SInv R Fm T S) (hC : CSH R Fm T S rolls frm tk sr) {i : Nat} (hi : i < 100) : fn_X4_takenBy rolls tk (nI i) = some (nI (ntk R T i)) := by
  obtain ⟨rfl, -, ht, -⟩ := hC
  have hR := R_le h
  unfold fn_X4_takenBy ntk
  rw [if_neg (ix_neg (by omega))]
  by_cases h1 : i < R
  · rw [if_neg (nI_ge h1 (by omega)), if_neg (show ¬ (21 : Int32) ≤ nI i from ix_ge (n := 21) (by omega) (by omega)), if_neg (nI_in (N := 21) (by omega) (by omega)), nI_clamp (by omega), ht i h1, if_pos h1]
    rfl
  · rw [if_pos (nI_le (by omega) (by omega)), if_neg h1]
    rfl
theorem rollsIn_c {rolls frm : Int32} {tk sr : kF} (h : SInv R Fm T S) (hC : CSH R Fm T S rolls frm tk sr) {f : Nat} (hf : f < 10) : fn_X4_rollsIn rolls frm sr (nI f) = some (nI (nin R Fm S f)) := by
  unfold fn_X4_rollsIn
  rw [nI_1, startOf_c h hC (by omega), kbs, startOf_c h hC (by omega), kbs, pk_sub (nst_mono h f)]
  rfl
theorem nI_eq10 {a : Nat} (h : a < 2 ^ 31) : (nI a = (10 : Int32)) ↔ a = 10 := nI_eq (b := 10) h (by omega)
theorem markOf_c {rolls frm : Int32} {tk sr : kF} (h : SInv R Fm T S) (hC : CSH R Fm T S rolls frm tk sr) {f : Nat} (hf : f < 10) : fn_X4_markOf rolls frm tk sr (nI f) = some (nI (nmk R T (nst R Fm S f))) := by
  have h1 := nst_le h f
  have hR := R_le h
  have t0 := ntk_le h (nst R Fm S f)
  have t1 := ntk_le h (nst R Fm S f + 1)
  unfold fn_X4_markOf nmk
  rw [startOf_c h hC (by omega), kbs, takenBy_c h hC (by omega), kbs, nI_1, takenBy_c h hC (by omega), kbs, kbs, ix_add]
  by_cases c : ntk R T (nst R Fm S f) = 10
  · rw [if_pos ((nI_eq10 (by omega)).mpr c), if_pos c]; rfl
  · rw [if_neg (fun e => c ((nI_eq10 (by omega)).mp e)), if_neg c]
    by_cases c2 : ntk R T (nst R Fm S f) + ntk R T (nst R Fm S f + 1) = 10
    · rw [if_pos ((nI_eq10 (by omega)).mpr c2), if_pos c2]; rfl
    · rw [if_neg (fun e => c2 ((nI_eq10 (by omega)).mp e)), if_neg c2]; rfl
theorem nI_eq0 {a : Nat} (h : a < 2 ^ 31) : (nI a = (0 : Int32)) ↔ a = 0 := nI_eq (b := 0) h (by omega)
theorem nmk_le {i : Nat} : nmk R T i ≤ 2 := by unfold nmk; split <;> (try split) <;> omega
theorem pointsOf_c {rolls frm : Int32} {tk sr : kF} (h : SInv R Fm T S) (hC : CSH R Fm T S rolls frm tk sr) {f : Nat} (hf : f < 10) : fn_X4_pointsOf rolls frm tk sr (nI f) = some (nI (npt R T (nst R Fm S f))) := by
  have h1 := nst_le h f
  have hR := R_le h
  have hm : nmk R T (nst R Fm S f) ≤ 2 := nmk_le
  unfold fn_X4_pointsOf npt
  rw [startOf_c h hC (by omega), kbs, takenBy_c h hC (by omega), kbs, nI_1, takenBy_c h hC (by omega), kbs, markOf_c h hC hf, kbs, show (2 : Int32) = nI 2 from rfl, ix_add, ix_add, takenBy_c h hC (by omega), kbs, ix_add]
  by_cases c : nmk R T (nst R Fm S f) = 0
  · rw [if_pos ((nI_eq0 (by omega)).mpr c), if_pos c]; rfl
  · rw [if_neg (fun e => c ((nI_eq0 (by omega)).mp e)), if_neg c]; rfl
theorem pts_loop_c {rolls frm : Int32} {tk sr : kF} (h : SInv R Fm T S) (hC : CSH R Fm T S rolls frm tk sr) : ∀ (d k q : Nat), k + d = 10 → d < q → fn_X4_allPoints_4 q rolls frm tk sr (nI (npts R Fm T S k)) (nI k) = some (nI (npts R Fm T S 10)) := by
  intro d
  induction d with
  | zero =>
    intro k q hk hq
    obtain ⟨q, rfl⟩ : ∃ z, q = z + 1 := ⟨q - 1, by omega⟩
    have hk : k = 10 := by omega
    subst hk
    rfl
  | succ d ih =>
    intro k q hk hq
    obtain ⟨q, rfl⟩ : ∃ z, q = z + 1 := ⟨q - 1, by omega⟩
    show (if _ then _ else _) = _
    rw [if_neg (show ¬ (10 : Int32) ≤ nI k from ix_ge (n := 10) (by omega) (by omega)), pointsOf_c h hC (by omega), kbs, ix_add, nI_1]
    exact ih (k + 1) q (by omega) (by omega)
theorem pts_c {rolls frm : Int32} {tk sr : kF} (h : SInv R Fm T S) (hC : CSH R Fm T S rolls frm tk sr) : fn_X4_allPoints rolls frm tk sr = some (nI (npts R Fm T S 10)) := pts_loop_c h hC 10 0 4096 (by omega) (by omega)
-- the row
theorem nin_le (h : SInv R Fm T S) {f : Nat} (hf : f < 10) : nin R Fm S f ≤ 3 := by
  have hF := h.1
  have hm := nst_mono h f
  by_cases h1 : f + 1 ≤ Fm
  · have e : nin R Fm S f = S (f + 1) - S f := by unfold nin nst; rw [if_pos h1, if_pos (by omega)]
    by_cases h9 : f < 9
    · rcases h.2.2.2.1 f (by omega) h9 with ⟨-, e2⟩ | ⟨-, e2⟩ <;> omega
    · have hF10 : Fm = 10 := by omega
      have hf9 : f = 9 := by omega
      subst hf9
      have e10 : S (9 + 1) = S 10 := rfl
      obtain ⟨e2, h2⟩ := h.2.2.2.2.2.1 hF10
      rcases h2 with ⟨-, h2⟩ | ⟨-, h2⟩ <;> omega
  · by_cases h2 : f = Fm
    · have e : nin R Fm S f = R - S f := by unfold nin nst; rw [if_neg h1, if_pos (by omega)]
      by_cases h9 : Fm = 9
      · subst h2
        rcases h.2.2.2.2.2.2.2 h9 with h3 | h3 | ⟨h3, -⟩ <;> rw [h9] at e <;> rw [h9] <;> omega
      · subst h2
        rcases h.2.2.2.2.2.2.1 (by omega) with h3 | ⟨h3, -⟩ <;> omega
    · have e : nin R Fm S f = 0 := by unfold nin nst; rw [if_neg h1, if_neg (by omega)]; omega
      omega
theorem rollOf_m {r : kF} (h : SInv R Fm T S) (hM : MSH R Fm T S r) {f i : Nat} (hf : f < 10) (hi : i < 3) : fn_X8_rollOf r (nI f) (nI i) = some (nI (if i < nin R Fm S f then ntk R T (nst R Fm S f + i) else 0)) := by
  obtain ⟨-, -, ht, hs, hn⟩ := hM
  have hR := R_le h
  have hn3 := nin_le h hf
  unfold fn_X8_rollOf
  rw [show (63 : Int32) = nI 63 from rfl, show (53 : Int32) = nI 53 from rfl, show (30 : Int32) = nI 30 from rfl, ix_add, ix_add, if_neg (nI_in (N := 79) (by omega) (by omega)), nI_clamp (by omega), hn f hf]
  by_cases c : i < nin R Fm S f
  · have hfF : f ≤ Fm := by
      rcases Nat.lt_or_ge Fm f with z | z
      · have e : nin R Fm S f = 0 := by unfold nin nst; rw [if_neg (by omega), if_neg (by omega)]; omega
        omega
      · exact z
    have e : nst R Fm S f = S f := if_pos hfF
    have hlt : S f + i < R := by
      have := nst_le h (f + 1)
      unfold nin at c
      rw [e] at c
      omega
    rw [if_neg (nI_ge c (by omega)), if_neg (nI_in (N := 79) (by omega) (by omega)), nI_clamp (by omega), hs f hf hfF, ix_add, ix_add, if_neg (nI_in (N := 79) (by omega) (by omega)), nI_clamp (by omega), if_pos c, e, show 30 + S f + i = 30 + (S f + i) by omega, ht _ hlt]
    unfold ntk
    rw [if_pos hlt]
    rfl
  · rw [if_pos (nI_le (by omega) (by omega)), if_neg c]
    rfl
theorem first_m (h : SInv R Fm T S) {f : Nat} (hf : f < 10) : (if 0 < nin R Fm S f then ntk R T (nst R Fm S f + 0) else 0) = ntk R T (nst R Fm S f) := by
  by_cases c : 0 < nin R Fm S f
  · rw [if_pos c]; rfl
  · rw [if_neg c]
    have e : nst R Fm S f = R := by
      by_cases h1 : f + 1 ≤ Fm
      · have := S_step h (f := f) (by omega)
        have : nin R Fm S f = S (f + 1) - S f := by unfold nin nst; rw [if_pos h1, if_pos (by omega)]
        omega
      · by_cases h2 : f = Fm
        · have e : nin R Fm S f = R - S f := by unfold nin nst; rw [if_neg h1, if_pos (by omega)]
          have e2 : nst R Fm S f = S f := if_pos (by omega)
          have := S_leR' h (f := f) (by omega)
          omega
        · exact if_neg (by omega)
    rw [e]
    exact (if_neg (Nat.lt_irrefl R)).symm
theorem second_m (h : SInv R Fm T S) {f : Nat} (hf : f < 10) (h10 : ntk R T (nst R Fm S f) ≠ 10) : (if 1 < nin R Fm S f then ntk R T (nst R Fm S f + 1) else 0) = ntk R T (nst R Fm S f + 1) := by
  by_cases c : 1 < nin R Fm S f
  · rw [if_pos c]
  · rw [if_neg c]
    have e : R ≤ nst R Fm S f + 1 := by
      by_cases h1 : f + 1 ≤ Fm
      · have e1 : nin R Fm S f = S (f + 1) - S f := by unfold nin nst; rw [if_pos h1, if_pos (by omega)]
        have e2 : nst R Fm S f = S f := if_pos (by omega)
        by_cases h9 : f < 9
        · rcases h.2.2.2.1 f (by omega) h9 with ⟨e3, e4⟩ | ⟨-, e4⟩
          · have hlt : S f < R := by have := S_leR' h h1; omega
            exact absurd (by rw [e2]; unfold ntk; rw [if_pos hlt]; exact e3) h10
          · omega
        · have hF10 : Fm = 10 := by have := h.1; omega
          have hf9 : f = 9 := by omega
          subst hf9
          have e10 : S (9 + 1) = S 10 := rfl
          obtain ⟨e3, h2⟩ := h.2.2.2.2.2.1 hF10
          rcases h2 with ⟨-, h2⟩ | ⟨-, h2⟩ <;> omega
      · by_cases h2 : f = Fm
        · have e : nin R Fm S f = R - S f := by unfold nin nst; rw [if_neg h1, if_pos (by omega)]
          have e2 : nst R Fm S f = S f := if_pos (by omega)
          omega
        · have : nst R Fm S f = R := if_neg (by omega)
          omega
    unfold ntk
    rw [if_neg (by omega)]
theorem markOf_m {r : kF} (h : SInv R Fm T S) (hM : MSH R Fm T S r) {f : Nat} (hf : f < 10) : fn_X8_markOf r (nI f) = some (nI (nmk R T (nst R Fm S f))) := by
  have t0 := ntk_le h (nst R Fm S f)
  have t1 := ntk_le h (nst R Fm S f + 1)
  unfold fn_X8_markOf nmk
  rw [show (0 : Int32) = nI 0 from rfl, show (1 : Int32) = nI 1 from rfl, rollOf_m h hM hf (by omega), kbs, rollOf_m h hM hf (by omega), kbs, kbs, first_m h hf]
  by_cases c : ntk R T (nst R Fm S f) = 10
  · rw [if_pos ((nI_eq10 (by omega)).mpr c), if_pos c]; rfl
  · rw [if_neg (fun e => c ((nI_eq10 (by omega)).mp e)), if_neg c, second_m h hf c, ix_add]
    by_cases c2 : ntk R T (nst R Fm S f) + ntk R T (nst R Fm S f + 1) = 10
    · rw [if_pos ((nI_eq10 (by omega)).mpr c2), if_pos c2]; rfl
    · rw [if_neg (fun e => c2 ((nI_eq10 (by omega)).mp e)), if_neg c2]; rfl
theorem later_m {r : kF} (h : SInv R Fm T S) (hM : MSH R Fm T S r) {i : Nat} (hi : i < 100) : fn_X8_later r (nI i) = some (nI (ntk R T i)) := by
  have hR := R_le h
  unfold fn_X8_later ntk
  rw [hM.1]
  by_cases c : i < R
  · rw [if_neg (nI_ge c (by omega)), show (30 : Int32) = nI 30 from rfl, ix_add, if_neg (nI_in (N := 79) (by omega) (by omega)), nI_clamp (by omega), hM.2.2.1 i c, if_pos c]; rfl
  · rw [if_pos (nI_le (by omega) (by omega)), if_neg c]; rfl
theorem npt_le (h : SInv R Fm T S) (i : Nat) : npt R T i ≤ 30 := by
  have := ntk_le h i
  have := ntk_le h (i + 1)
  have := ntk_le h (i + 2)
  unfold npt
  split <;> omega
theorem third_m (h : SInv R Fm T S) : (if 2 < nin R Fm S 9 then ntk R T (nst R Fm S 9 + 2) else 0) = (if nmk R T (nst R Fm S 9) = 0 then 0 else ntk R T (nst R Fm S 9 + 2)) := by
  have hF := h.1
  have hs := S_leR' h (Nat.le_refl Fm)
  by_cases h10 : Fm = 10
  · obtain ⟨e3, h2⟩ := h.2.2.2.2.2.1 h10
    have e1 : nst R Fm S 9 = S 9 := if_pos (by omega)
    have e2 : nin R Fm S 9 = S 10 - S 9 := by unfold nin nst; rw [if_pos (by omega), if_pos (by omega)]
    rw [e1]
    rcases h2 with ⟨h2, h4⟩ | ⟨h2, h4⟩
    · rw [if_neg (by omega), if_pos h2]
    · rw [if_pos (by omega), if_neg h2]
  · by_cases h9 : Fm = 9
    · have e1 : nst R Fm S 9 = S 9 := if_pos (by omega)
      have e2 : nin R Fm S 9 = R - S 9 := by unfold nin nst; rw [if_neg (by omega), if_pos (by omega)]
      have h3 : R ≤ S 9 + 2 := by rcases h.2.2.2.2.2.2.2 h9 with h3 | h3 | ⟨h3, -⟩ <;> omega
      rw [e1, if_neg (by omega)]
      split
      · rfl
      · unfold ntk; rw [if_neg (by omega)]
    · have e1 : nst R Fm S 9 = R := if_neg (by omega)
      have e2 : nin R Fm S 9 = R - R := by unfold nin nst; rw [if_neg (by omega), if_neg (by omega)]
      rw [e1, if_neg (by omega)]
      split
      · rfl
      · unfold ntk; rw [if_neg (by omega)]
theorem nin2 (h : SInv R Fm T S) {f : Nat} (hf : f < 9) : nin R Fm S f ≤ 2 ∧ (nmk R T (nst R Fm S f) = 1 → nin R Fm S f = 1) ∧ (nmk R T (nst R Fm S f) = 2 → nin R Fm S f = 2) := by
  have hF := h.1
  by_cases h1 : f < Fm
  · have e1 : nst R Fm S f = S f := if_pos (by omega)
    have e2 : nin R Fm S f = S (f + 1) - S f := by unfold nin nst; rw [if_pos (by omega), if_pos (by omega)]
    have hlt : S f < R := by have := S_leR' h (f := f + 1) (by omega); have := S_step h h1; omega
    have et : ntk R T (S f) = T (S f) := if_pos hlt
    rw [e1]
    rcases h.2.2.2.1 f h1 hf with ⟨h3, h4⟩ | ⟨h3, h4⟩
    · have em : nmk R T (S f) = 1 := by unfold nmk; rw [et, if_pos h3]
      rw [em]
      omega
    · have em : nmk R T (S f) ≠ 1 := by unfold nmk; rw [et, if_neg h3]; split <;> omega
      omega
  · by_cases h2 : f = Fm
    · have e1 : nst R Fm S f = S f := if_pos (by omega)
      have e2 : nin R Fm S f = R - S f := by unfold nin nst; rw [if_neg (by omega), if_pos (by omega)]
      rw [e1]
      subst h2
      have t1 : ntk R T (S f + 1) = 0 := by
        unfold ntk
        rcases h.2.2.2.2.2.2.1 (by omega) with h3 | ⟨h3, -⟩ <;> rw [if_neg (by omega)]
      have em : nmk R T (S f) = 0 := by
        unfold nmk
        rcases h.2.2.2.2.2.2.1 (by omega) with h3 | ⟨h3, h4⟩
        · have t0 : ntk R T (S f) = 0 := if_neg (by omega)
          rw [t0, t1]; rfl
        · have t0 : ntk R T (S f) = T (S f) := if_pos (by omega)
          rw [t0, t1, if_neg h4, if_neg (by omega)]
      rcases h.2.2.2.2.2.2.1 (by omega) with h3 | ⟨h3, -⟩ <;> omega
    · have e1 : nst R Fm S f = R := if_neg (by omega)
      have e2 : nin R Fm S f = R - R := by unfold nin nst; rw [if_neg (by omega), if_neg (by omega)]
      have em : nmk R T R = 0 := by
        unfold nmk
        have t0 : ntk R T R = 0 := if_neg (by omega)
        have t1 : ntk R T (R + 1) = 0 := if_neg (by omega)
        rw [t0, t1]; rfl
      rw [e1, em]
      omega
theorem pointsOf_m {r : kF} (h : SInv R Fm T S) (hM : MSH R Fm T S r) {f : Nat} (hf : f < 10) : fn_X8_pointsOf r (nI f) = some (nI (npt R T (nst R Fm S f))) := by
  have t0 := ntk_le h (nst R Fm S f)
  have t1 := ntk_le h (nst R Fm S f + 1)
  have t2 := ntk_le h (nst R Fm S f + 2)
  have hR := R_le h
  have hst := nst_le h f
  have hn3 := nin_le h hf
  unfold fn_X8_pointsOf
  rw [show fn_X8_rollOf r (nI f) 0 = _ from rollOf_m (i := 0) h hM hf (by omega), kbs, show fn_X8_rollOf r (nI f) 1 = _ from rollOf_m (i := 1) h hM hf (by omega), kbs, show fn_X8_rollOf r (nI f) 2 = _ from rollOf_m (i := 2) h hM hf (by omega), kbs, markOf_m h hM hf, kbs, show (53 : Int32) = nI 53 from rfl, show (63 : Int32) = nI 63 from rfl, ix_add, ix_add, if_neg (nI_in (N := 79) (by omega) (by omega)), if_neg (nI_in (N := 79) (by omega) (by omega)), first_m h hf]
  by_cases h9 : f < 9
  · rw [if_neg (show ¬ (9 : Int32) ≤ nI f from ix_ge (n := 9) h9 (by omega))]
    obtain ⟨n2, m1, m2⟩ := nin2 h h9
    rw [if_neg (show ¬ 2 < nin R Fm S f by omega), show nI 0 = (0 : Int32) from rfl, Int32.add_zero]
    by_cases c0 : nmk R T (nst R Fm S f) = 0
    · have h10 : ntk R T (nst R Fm S f) ≠ 10 := fun e => by unfold nmk at c0; rw [if_pos e] at c0; omega
      rw [c0, if_pos (show nI 0 ≤ 0 from Int32.le_refl _), second_m h hf h10, ix_add]
      unfold npt fn_X8_pointsOf_79
      rw [if_pos c0]
      rfl
    · have hm2 : nmk R T (nst R Fm S f) ≤ 2 := nmk_le
      have hle : ¬ nI (nmk R T (nst R Fm S f)) ≤ 0 := nI_nle (by omega) (by omega)
      have hfF : f ≤ Fm := by
        rcases Nat.lt_or_ge Fm f with z | z
        · have e : nin R Fm S f = 0 := by unfold nin nst; rw [if_neg (by omega), if_neg (by omega)]; omega
          rcases (show nmk R T (nst R Fm S f) = 1 ∨ nmk R T (nst R Fm S f) = 2 by omega) with z2 | z2
          · have := m1 z2; omega
          · have := m2 z2; omega
        · exact z
      have e1 : nst R Fm S f = S f := if_pos hfF
      rw [if_neg hle, nI_clamp (by omega), nI_clamp (by omega), hM.2.2.2.1 f hf hfF, hM.2.2.2.2 f hf, ix_add, nI_1, later_m h hM (by omega), kbs, later_m h hM (by omega), kbs, ← e1]
      rcases (show nmk R T (nst R Fm S f) = 1 ∨ nmk R T (nst R Fm S f) = 2 by omega) with z2 | z2
      · have n1 := m1 z2
        rw [z2, n1, if_pos (show nI 1 = 1 from rfl), if_neg (by omega)]
        unfold npt fn_X8_pointsOf_76 fn_X8_pointsOf_79
        rw [z2, if_neg (by omega), ix_add, ix_add, ix_add, show nst R Fm S f + 1 + 1 = nst R Fm S f + 2 from rfl]
        exact congrArg some (congrArg nI (by omega))
      · have n1 := m2 z2
        rw [z2, n1, if_neg (show ¬ nI 2 = 1 by decide), if_pos (by omega)]
        unfold npt fn_X8_pointsOf_76 fn_X8_pointsOf_79
        rw [z2, if_neg (by omega), Int32.add_zero, ix_add, ix_add]
  · have hf9 : f = 9 := by omega
    subst hf9
    rw [if_pos (show (9 : Int32) ≤ nI 9 from Int32.le_refl _), third_m h, ix_add, ix_add]
    unfold npt fn_X8_pointsOf_79
    by_cases c10 : ntk R T (nst R Fm S 9) = 10
    · have hin : 1 < nin R Fm S 9 ∨ ntk R T (nst R Fm S 9 + 1) = 0 := by
        by_cases c : 1 < nin R Fm S 9
        · exact Or.inl c
        · right
          have hF := h.1
          unfold ntk
          by_cases h10 : Fm = 10
          · obtain ⟨e3, h2⟩ := h.2.2.2.2.2.1 h10
            have e2 : nin R Fm S 9 = S 10 - S 9 := by unfold nin nst; rw [if_pos (by omega), if_pos (by omega)]
            rcases h2 with ⟨h2, h4⟩ | ⟨h2, h4⟩ <;> omega
          · by_cases h99 : Fm = 9
            · have e1 : nst R Fm S 9 = S 9 := if_pos (by omega)
              have e2 : nin R Fm S 9 = R - S 9 := by unfold nin nst; rw [if_neg (by omega), if_pos (by omega)]
              rw [if_neg (by omega)]
            · have e1 : nst R Fm S 9 = R := if_neg (by omega)
              rw [if_neg (by omega)]
      rcases hin with c | c
      · rw [if_pos c]
      · rw [c]
        split <;> rfl
    · rw [second_m h hf c10]
theorem pts_loop_m {r : kF} (h : SInv R Fm T S) (hM : MSH R Fm T S r) : ∀ (d k q : Nat), k + d = 10 → d < q → fn_X8_points_4 q r (nI (npts R Fm T S k)) (nI k) = some (nI (npts R Fm T S 10)) := by
  intro d
  induction d with
  | zero =>
    intro k q hk hq
    obtain ⟨q, rfl⟩ : ∃ z, q = z + 1 := ⟨q - 1, by omega⟩
    have hk : k = 10 := by omega
    subst hk
    rfl
  | succ d ih =>
    intro k q hk hq
    obtain ⟨q, rfl⟩ : ∃ z, q = z + 1 := ⟨q - 1, by omega⟩
    show (if _ then _ else _) = _
    rw [if_neg (show ¬ (10 : Int32) ≤ nI k from ix_ge (n := 10) (by omega) (by omega)), pointsOf_m h hM (by omega), kbs, ix_add, nI_1]
    exact ih (k + 1) q (by omega) (by omega)
theorem pts_m {r : kF} (h : SInv R Fm T S) (hM : MSH R Fm T S r) : fn_X8_points r = some (nI (npts R Fm T S 10)) := pts_loop_m h hM 10 0 4096 (by omega) (by omega)
end SH
