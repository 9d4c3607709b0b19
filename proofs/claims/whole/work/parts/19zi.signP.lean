/-! the signs of a roll: class and reference -/
def V0 (c : Int32) : Bool := decide (48 ≤ c ∧ c ≤ 52)
def V1 (p c : Int32) : Bool := decide (48 ≤ c ∧ c ≤ (if p = 52 then 48 else 57))
def V3 (c : Int32) : Bool := decide (48 ≤ c ∧ c ≤ 51)
def V4 (p c : Int32) : Bool := decide ((if p = 48 then 49 else 48) ≤ c ∧ c ≤ (if p = 51 then 48 else 57))
def nmb (p c : Int32) : Int32 := 10 * (p - 48) + c - 48
theorem btw {x a b : Int32} : fn_X0_isBetween x a b = some (if a ≤ x ∧ x ≤ b then 1 else 0) := by
  unfold fn_X0_isBetween
  by_cases c : x < a
  · rw [if_pos c, if_neg (fun h => Int32.not_le.mpr c h.1)]; rfl
  · rw [if_neg c]
    by_cases d : b < x
    · rw [if_pos d, if_neg (fun h => Int32.not_le.mpr d h.2)]; rfl
    · rw [if_neg d, if_pos ⟨Int32.not_lt.mp c, Int32.not_lt.mp d⟩]; rfl
theorem bool01 {P : Prop} [Decidable P] : (if (if P then (1 : Int32) else 0) = 0 ∨ (if P then (1 : Int32) else 0) = 1 then some (if P then (1 : Int32) else 0) else none) = some (if P then 1 else 0) := by
  by_cases c : P
  · rw [if_pos c]; rfl
  · rw [if_neg c]; rfl
theorem al_0 {c p : Int32} : fn_X0_isAllowed 0 c p = some (if V0 c = true then 1 else 0) := by
  unfold fn_X0_isAllowed V0
  rw [if_pos rfl, btw, kbs, bool01]
  simp only [decide_eq_true_eq]
theorem al_1 {c p : Int32} : fn_X0_isAllowed 1 c p = some (if V1 p c = true then 1 else 0) := by
  unfold fn_X0_isAllowed V1 fn_X0_isAllowed_57
  rw [if_neg (show ¬ (1 : Int32) = 0 by decide), if_pos rfl]
  by_cases e : p = 52
  · rw [if_pos e, if_pos e, btw, kbs, bool01]
    simp only [decide_eq_true_eq]
  · rw [if_neg e, if_neg e, btw, kbs, bool01]
    simp only [decide_eq_true_eq]
theorem al_3 {c p : Int32} : fn_X0_isAllowed 3 c p = some (if V3 c = true then 1 else 0) := by
  unfold fn_X0_isAllowed V3
  rw [if_neg (show ¬ (3 : Int32) = 0 by decide), if_neg (show ¬ (3 : Int32) = 1 by decide), if_neg (show ¬ (3 : Int32) = 2 by decide), if_pos rfl, btw, kbs, bool01]
  simp only [decide_eq_true_eq]
theorem al_4 {c p : Int32} : fn_X0_isAllowed 4 c p = some (if V4 p c = true then 1 else 0) := by
  unfold fn_X0_isAllowed V4 fn_X0_isAllowed_98 fn_X0_isAllowed_111
  rw [if_neg (show ¬ (4 : Int32) = 0 by decide), if_neg (show ¬ (4 : Int32) = 1 by decide), if_neg (show ¬ (4 : Int32) = 2 by decide), if_neg (show ¬ (4 : Int32) = 3 by decide)]
  by_cases e : p = 48
  · rw [if_pos e, if_pos e]
    by_cases f : p = 51
    · rw [if_pos f, if_pos f, btw, kbs, bool01]
      simp only [decide_eq_true_eq]
    · rw [if_neg f, if_neg f, btw, kbs, bool01]
      simp only [decide_eq_true_eq]
  · rw [if_neg e, if_neg e]
    by_cases f : p = 51
    · rw [if_pos f, if_pos f, btw, kbs, bool01]
      simp only [decide_eq_true_eq]
    · rw [if_neg f, if_neg f, btw, kbs, bool01]
      simp only [decide_eq_true_eq]
theorem t_0 : ∀ m : Fin 257, figOK (nI m.val - 1) 40 0 0 10 = V0 (nI m.val - 1) := by decide +kernel
theorem t_3 : ∀ m : Fin 257, figOK (nI m.val - 1) 30 1 0 10 = V3 (nI m.val - 1) := by decide +kernel
theorem t_1 : ∀ a : Fin 5, ∀ m : Fin 257, figOK (nI m.val - 1) 40 0 (0 + (nI (48 + a.val) - 48) * 10) 1 = V1 (nI (48 + a.val)) (nI m.val - 1) := by decide +kernel
theorem t_4 : ∀ a : Fin 4, ∀ m : Fin 257, figOK (nI m.val - 1) 30 1 (0 + (nI (48 + a.val) - 48) * 10) 1 = V4 (nI (48 + a.val)) (nI m.val - 1) := by decide +kernel
theorem t_n : ∀ a : Fin 5, ∀ m : Fin 257, 0 + (nI (48 + a.val) - 48) * 10 + (nI m.val - 1 - 48) * 1 = nmb (nI (48 + a.val)) (nI m.val - 1) := by decide +kernel
theorem V0_nat {c : Int32} (h : V0 c = true) : ∃ a : Nat, a < 5 ∧ c = nI (48 + a) := by
  unfold V0 at h
  have h2 := of_decide_eq_true h
  obtain ⟨j, hj, rfl⟩ := nat_of (n := 52) (by omega) (⟨Int32.le_trans (by decide) h2.1, h2.2⟩ : 0 ≤ c ∧ c ≤ nI 52)
  have := (nI_leI (by omega) (by omega)).mp (show nI 48 ≤ nI j from h2.1)
  exact ⟨j - 48, by omega, by rw [show 48 + (j - 48) = j by omega]⟩
theorem V3_nat {c : Int32} (h : V3 c = true) : ∃ a : Nat, a < 4 ∧ c = nI (48 + a) := by
  unfold V3 at h
  have h2 := of_decide_eq_true h
  obtain ⟨j, hj, rfl⟩ := nat_of (n := 51) (by omega) (⟨Int32.le_trans (by decide) h2.1, h2.2⟩ : 0 ≤ c ∧ c ≤ nI 51)
  have := (nI_leI (by omega) (by omega)).mp (show nI 48 ≤ nI j from h2.1)
  exact ⟨j - 48, by omega, by rw [show 48 + (j - 48) = j by omega]⟩
theorem fig_end {n i q : Nat} {S : kF} {lo hi x3 : Int32} : fn_X8_figures_6 (q + 1) (nI n) (nI i) S lo hi x3 (1 / 10) = some (x3, nI i) := by
  show (if (1 : Int32) / 10 ≤ 0 then _ else _) = _
  rw [if_pos (by decide)]
theorem fig40 {n i : Nat} {S : kF} (hn : n ≤ 120) (hi : i < 900) (hs : ∀ i, i < n → 0 ≤ S i ∧ S i ≤ 255) : fn_X8_figures (nI n) (nI i) S 0 40 = if V0 (sgn n S i) = true then (if V1 (sgn n S i) (sgn n S (i + 1)) = true then some (nmb (sgn n S i) (sgn n S (i + 1)), nI (i + 2)) else some (-1, nI (i + 1))) else some (-1, nI i) := by
  obtain ⟨m0, hm0, e0⟩ := sgn_nat (i := i) hs
  obtain ⟨m1, hm1, e1⟩ := sgn_nat (i := i + 1) hs
  have h0 : figOK (sgn n S i) 40 0 0 10 = V0 (sgn n S i) := by rw [e0]; exact t_0 ⟨m0, hm0⟩
  unfold fn_X8_figures
  rw [show (4096 : Nat) = 4093 + 1 + 1 + 1 from rfl, fig_step hn (by omega) (by decide), h0]
  cases hv : V0 (sgn n S i) with
  | false => rfl
  | true =>
    obtain ⟨a, ha, ea⟩ := V0_nat hv
    rw [if_pos rfl, if_pos rfl, show (10 : Int32) / 10 = 1 by decide, fig_step hn (by omega) (by decide)]
    have h1 : figOK (sgn n S (i + 1)) 40 0 (0 + (sgn n S i - 48) * 10) 1 = V1 (sgn n S i) (sgn n S (i + 1)) := by rw [ea, e1]; exact t_1 ⟨a, ha⟩ ⟨m1, hm1⟩
    rw [h1, fig_end]
    have h2 : 0 + (sgn n S i - 48) * 10 + (sgn n S (i + 1) - 48) * 1 = nmb (sgn n S i) (sgn n S (i + 1)) := by rw [ea, e1]; exact t_n ⟨a, ha⟩ ⟨m1, hm1⟩
    rw [h2]
theorem fig30 {n i : Nat} {S : kF} (hn : n ≤ 120) (hi : i < 900) (hs : ∀ i, i < n → 0 ≤ S i ∧ S i ≤ 255) : fn_X8_figures (nI n) (nI i) S 1 30 = if V3 (sgn n S i) = true then (if V4 (sgn n S i) (sgn n S (i + 1)) = true then some (nmb (sgn n S i) (sgn n S (i + 1)), nI (i + 2)) else some (-1, nI (i + 1))) else some (-1, nI i) := by
  obtain ⟨m0, hm0, e0⟩ := sgn_nat (i := i) hs
  obtain ⟨m1, hm1, e1⟩ := sgn_nat (i := i + 1) hs
  have h0 : figOK (sgn n S i) 30 1 0 10 = V3 (sgn n S i) := by rw [e0]; exact t_3 ⟨m0, hm0⟩
  unfold fn_X8_figures
  rw [show (4096 : Nat) = 4093 + 1 + 1 + 1 from rfl, fig_step hn (by omega) (by decide), h0]
  cases hv : V3 (sgn n S i) with
  | false => rfl
  | true =>
    obtain ⟨a, ha, ea⟩ := V3_nat hv
    rw [if_pos rfl, if_pos rfl, show (10 : Int32) / 10 = 1 by decide, fig_step hn (by omega) (by decide)]
    have h1 : figOK (sgn n S (i + 1)) 30 1 (0 + (sgn n S i - 48) * 10) 1 = V4 (sgn n S i) (sgn n S (i + 1)) := by rw [ea, e1]; exact t_4 ⟨a, ha⟩ ⟨m1, hm1⟩
    rw [h1, fig_end]
    have h2 : 0 + (sgn n S i - 48) * 10 + (sgn n S (i + 1) - 48) * 1 = nmb (sgn n S i) (sgn n S (i + 1)) := by rw [ea, e1]; exact t_n ⟨a, by omega⟩ ⟨m1, hm1⟩
    rw [h2]
