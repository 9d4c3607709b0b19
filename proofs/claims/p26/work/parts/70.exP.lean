/-! what the property rests on, of sheets and racks -/
def EX (M R Fm : Nat) (T S : Nat → Nat) : Prop := (∀ f, f < 10 → f ≤ Fm → S f + 1 < R → T (S f) ≠ 10 → T (S f) + T (S f + 1) ≤ 10) ∧ (Fm < 10 → R = S Fm + 1 → T (S Fm) ≠ 10 → T (S Fm) + npop M 10 ≤ 10)
section EXs
variable {R Fm : Nat} {T S : Nat → Nat}
theorem tup_old {t i : Nat} (h : i ≠ R) : tup T R t i = T i := if_neg h
theorem tup_new {t : Nat} : tup T R t R = t := if_pos rfl
theorem sup_old {f x g : Nat} (h : g ≠ f) : sup S f x g = S g := if_neg h
theorem sup_new {f x : Nat} : sup S f x f = x := if_pos rfl
theorem nS_old {t f : Nat} (h : f ≤ Fm) : nS R Fm t T S f = S f := by
  unfold nS
  split
  · exact sup_old (by omega)
  · rfl
theorem S_two (h : SInv R Fm T S) {f : Nat} (hf : f < Fm) (h9 : f < 9) (h10 : T (S f) ≠ 10) : S f + 2 ≤ R := by
  have h1 := h.2.2.2.1 f hf h9
  have h2 := S_leR' h (f := f + 1) (by omega)
  rcases h1 with h1 | h1
  · exact absurd h1.1 h10
  · omega
theorem EX_add {M M' t : Nat} (h : SInv R Fm T S) (hE : EX M R Fm T S) (hF : Fm < 10) (ht : t ≤ npop M 10) (hk : nkind R Fm t T S = 2 → t + npop M' 10 ≤ npop M 10) : EX M' (R + 1) (nF R Fm t T S) (tup T R t) (nS R Fm t T S) := by
  have hM := npop_le M 10
  refine ⟨fun f hf hfF hS h10 => ?_, fun hF2 hR2 h10 => ?_⟩
  · by_cases cf : f ≤ Fm
    · rw [nS_old cf] at hS h10 ⊢
      have hs1 := S_leR' h cf
      by_cases c1 : S f + 1 < R
      · rw [tup_old (by omega)] at h10 ⊢
        rw [tup_old (by omega)]
        exact hE.1 f hf cf c1 h10
      · have c2 : S f + 1 = R := by omega
        rw [tup_old (by omega)] at h10 ⊢
        rw [c2, tup_new]
        by_cases c3 : f = Fm
        · subst c3
          have := hE.2 hF c2.symm h10
          omega
        · have := S_two h (f := f) (by omega) (by omega) h10
          omega
    · have hd : ndone R Fm t T S = true := by
        by_cases z : ndone R Fm t T S = true
        · exact z
        · unfold nF at hfF
          rw [if_neg z] at hfF
          exact absurd hfF cf
      have e1 : nF R Fm t T S = Fm + 1 := by
        unfold nF
        rw [if_pos hd]
      have hf1 : f = Fm + 1 := by omega
      subst hf1
      have : nS R Fm t T S (Fm + 1) = R + 1 := by
        unfold nS
        rw [if_pos hd]
        exact sup_new
      omega
  · by_cases cd : ndone R Fm t T S = true
    · have e1 : nF R Fm t T S = Fm + 1 := by unfold nF; rw [if_pos cd]
      have e2 : nS R Fm t T S (Fm + 1) = R + 1 := by unfold nS; rw [if_pos cd]; exact sup_new
      rw [e1, e2] at hR2
      omega
    · have e1 : nF R Fm t T S = Fm := by unfold nF; rw [if_neg cd]
      rw [e1, nS_old (Nat.le_refl _)] at hR2 h10 ⊢
      have hSR : S Fm = R := by omega
      rw [hSR, tup_new] at h10 ⊢
      have hk2 : nkind R Fm t T S = 2 := by
        unfold nkind
        rw [if_neg cd]
        by_cases c9 : Fm < 9
        · rw [if_pos c9]
        · rw [if_neg c9, hSR, nmk_first, if_neg h10]
          rw [if_neg (by omega)]
      have := hk hk2
      omega
theorem EX_sub {M M' : Nat} (hE : EX M R Fm T S) (hm : npop M' 10 ≤ npop M 10) : EX M' R Fm T S := ⟨hE.1, fun a b c => by have := hE.2 a b c; omega⟩
theorem EX_0 {M : Nat} {T S : Nat → Nat} (hS : S 0 = 0) : EX M 0 0 T S := ⟨fun f hf hf2 h1 => by omega, fun _ h1 => by omega⟩
theorem npt_zero {i : Nat} (hi : R ≤ i) : npt R T i = 0 := by
  have e : ∀ j, R ≤ j → ntk R T j = 0 := fun j hj => if_neg (by omega)
  have e2 : nmk R T i = 0 := by unfold nmk; rw [e i hi, e (i + 1) (by omega)]; decide
  unfold npt
  rw [e i hi, e (i + 1) (by omega), e2, if_pos rfl]
theorem tk_mono {t i : Nat} : ntk R T i ≤ ntk (R + 1) (tup T R t) i := by
  rw [tup_tk]
  by_cases e : i = R
  · subst e
    rw [if_pos rfl]
    unfold ntk
    rw [if_neg (by omega)]
    omega
  · rw [if_neg e]
    exact Nat.le_refl _
theorem mk_mono (h : SInv R Fm T S) (hF : Fm < 10) {t f : Nat} (hf : f < Fm) : nmk (R + 1) (tup T R t) (S f) = nmk R T (S f) := by
  by_cases c : T (S f) = 10
  · have h1 := S_step h hf
    have h2 := S_leR' h (f := f + 1) (by omega)
    have e1 : ntk R T (S f) = 10 := by unfold ntk; rw [if_pos (by omega)]; exact c
    have e2 : ntk (R + 1) (tup T R t) (S f) = 10 := by rw [tup_tk, if_neg (by omega)]; exact e1
    unfold nmk
    rw [if_pos e1, if_pos e2]
  · exact nmk_keep (by have := S_two h hf (by omega) c; omega)
theorem pts_one (h : SInv R Fm T S) (hF : Fm < 10) {t f : Nat} (hf : f < Fm) : npt R T (S f) ≤ npt (R + 1) (tup T R t) (S f) := by
  unfold npt
  rw [mk_mono h hF hf]
  have a1 := tk_mono (R := R) (T := T) (t := t) (i := S f)
  have a2 := tk_mono (R := R) (T := T) (t := t) (i := S f + 1)
  have a3 := tk_mono (R := R) (T := T) (t := t) (i := S f + 2)
  split <;> omega
theorem pts_last (h : SInv R Fm T S) (hF : Fm < 10) {t : Nat} : npt R T (S Fm) + t ≤ npt (R + 1) (tup T R t) (S Fm) := by
  have z : ∀ j, R ≤ j → ntk R T j = 0 := fun j hj => if_neg (by omega)
  have zn : ntk (R + 1) (tup T R t) R = t := by rw [tup_tk, if_pos rfl]
  have zo : ∀ j, j ≠ R → ntk (R + 1) (tup T R t) j = ntk R T j := fun j hj => by rw [tup_tk, if_neg hj]
  have hcase : R = S Fm ∨ R = S Fm + 1 ∨ (R = S Fm + 2 ∧ nmk R T (S Fm) ≠ 0) := by
    rcases in_cases h hF with ⟨-, h1 | h1⟩ | ⟨h9, h1⟩
    · exact Or.inl h1
    · exact Or.inr (Or.inl h1.1)
    · subst h9
      exact h1
  rcases hcase with e | e | ⟨e, em⟩
  · rw [← e, npt_zero (Nat.le_refl R)]
    unfold npt
    rw [zn]
    omega
  · unfold npt
    have e2 : S Fm + 1 = R := e.symm
    have e3 : nmk R T (S Fm) ≠ 2 := by
      unfold nmk
      split
      · omega
      · rename_i c
        rw [z (S Fm + 1) (by omega)]
        split <;> omega
    rw [z (S Fm + 1) (by omega), z (S Fm + 2) (by omega), zo (S Fm) (by omega), e2, zn]
    split <;> split <;> omega
  · unfold npt
    have e2 : S Fm + 2 = R := e.symm
    rw [nmk_keep (by omega), if_neg em, if_neg em, zo (S Fm) (by omega), zo (S Fm + 1) (by omega), e2, zn, z R (Nat.le_refl R)]
    omega
theorem nst_new (h : SInv R Fm T S) {t f : Nat} : nst (R + 1) (nF R Fm t T S) (nS R Fm t T S) f = if f ≤ Fm then S f else R + 1 := by
  unfold nst
  by_cases c : f ≤ Fm
  · have : f ≤ nF R Fm t T S := by unfold nF; split <;> omega
    rw [if_pos this, if_pos c, nS_old c]
  · rw [if_neg c]
    split
    · rename_i c2
      have hd : ndone R Fm t T S = true := by
        unfold nF at c2
        split at c2
        · assumption
        · omega
      have : f = Fm + 1 := by
        unfold nF at c2
        rw [if_pos hd] at c2
        omega
      subst this
      unfold nS
      rw [if_pos hd]
      exact sup_new
    · rfl
theorem pts_add (h : SInv R Fm T S) (hF : Fm < 10) {t : Nat} : npts R Fm T S 10 + t ≤ npts (R + 1) (nF R Fm t T S) (tup T R t) (nS R Fm t T S) 10 := by
  have key : ∀ n, npts R Fm T S n + (if Fm < n then t else 0) ≤ npts (R + 1) (nF R Fm t T S) (tup T R t) (nS R Fm t T S) n := by
    intro n
    induction n with
    | zero => rw [if_neg (by omega)]; exact Nat.le_refl _
    | succ n ih =>
      unfold npts
      rw [nst_new h]
      by_cases c : n ≤ Fm
      · rw [if_pos c, show nst R Fm S n = S n from if_pos c]
        by_cases c2 : n = Fm
        · subst c2
          rw [if_neg (by omega)] at ih
          rw [if_pos (by omega)]
          have := pts_last h hF (t := t)
          omega
        · rw [if_neg (by omega)] at ih
          rw [if_neg (by omega)]
          have := pts_one h hF (t := t) (f := n) (by omega)
          omega
      · rw [if_neg c, show nst R Fm S n = R from if_neg c, npt_zero (Nat.le_refl R), npt_zero (Nat.le_refl (R + 1))]
        rw [if_pos (by omega)] at ih ⊢
        omega
  have := key 10
  rw [if_pos (by omega)] at this
  exact this
theorem npts_le (h : SInv R Fm T S) (n : Nat) : npts R Fm T S n ≤ 30 * n := by
  induction n with
  | zero => exact Nat.le_refl _
  | succ n ih =>
    have := npt_le h (nst R Fm S n)
    unfold npts
    omega
/-- the sum of what the rolls took -/
def nsum (T : Nat → Nat) : Nat → Nat
  | 0 => 0
  | n + 1 => nsum T n + T n
theorem nst_end (h : SInv R Fm T S) : nst R Fm S 10 = R := by
  unfold nst
  split
  · have : Fm = 10 := by have := h.1; omega
    exact (h.2.2.2.2.2.1 this).1
  · rfl
theorem nst_zero (h : SInv R Fm T S) : nst R Fm S 0 = 0 := by
  unfold nst
  rw [if_pos (by omega)]
  exact h.2.1
theorem nin_zero (h : SInv R Fm T S) {f : Nat} (hf : Fm < f) : nin R Fm S f = 0 := by
  unfold nin nst
  rw [if_neg (by omega), if_neg (by omega)]
  omega
theorem nin_pos (h : SInv R Fm T S) {f : Nat} (hf : f < Fm) : 0 < nin R Fm S f := by
  have h1 := S_step h hf
  unfold nin nst
  rw [if_pos (by omega), if_pos (by omega)]
  omega
theorem sum_frame (h : SInv R Fm T S) {f : Nat} (hf : f < 10) : nsum T (nst R Fm S (f + 1)) ≤ nsum T (nst R Fm S f) + npt R T (nst R Fm S f) := by
  have h1 := nst_mono h f
  have h2 := nst_le h (f + 1)
  have h3 : nin R Fm S f ≤ 3 := nin_le h hf
  have hn : nst R Fm S (f + 1) = nst R Fm S f + nin R Fm S f := by unfold nin; omega
  have hk : ∀ i, i < R → T i = ntk R T i := fun i hi => (if_pos hi).symm
  have h4 : 2 < nin R Fm S f → nmk R T (nst R Fm S f) ≠ 0 ∨ ntk R T (nst R Fm S f + 2) = 0 := by
    intro c
    have c9 : f = 9 := by
      rcases Nat.lt_or_ge f 9 with z | z
      · have := (nin2 h z).1; omega
      · omega
    subst c9
    have := third_m h
    rw [if_pos c] at this
    by_cases cz : nmk R T (nst R Fm S 9) = 0
    · rw [if_pos cz] at this
      exact Or.inr this
    · exact Or.inl cz
  rw [hn]
  unfold npt
  rcases (show nin R Fm S f = 0 ∨ nin R Fm S f = 1 ∨ nin R Fm S f = 2 ∨ nin R Fm S f = 3 by omega) with e | e | e | e
  · rw [e]
    show nsum T (nst R Fm S f) ≤ _
    omega
  · rw [e]
    show nsum T (nst R Fm S f) + T (nst R Fm S f) ≤ _
    rw [hk _ (by omega)]
    omega
  · rw [e]
    show nsum T (nst R Fm S f) + T (nst R Fm S f) + T (nst R Fm S f + 1) ≤ _
    rw [hk (nst R Fm S f) (by omega), hk (nst R Fm S f + 1) (by omega)]
    omega
  · rw [e]
    show nsum T (nst R Fm S f) + T (nst R Fm S f) + T (nst R Fm S f + 1) + T (nst R Fm S f + 2) ≤ _
    rw [hk (nst R Fm S f) (by omega), hk (nst R Fm S f + 1) (by omega), hk (nst R Fm S f + 2) (by omega)]
    rcases h4 (by omega) with z | z
    · rw [if_neg z]
      omega
    · rw [z]
      omega
theorem sum_pts (h : SInv R Fm T S) : nsum T R ≤ npts R Fm T S 10 := by
  have key : ∀ n, n ≤ 10 → nsum T (nst R Fm S n) ≤ npts R Fm T S n := by
    intro n
    induction n with
    | zero => intro _; rw [nst_zero h]; exact Nat.le_refl _
    | succ n ih =>
      intro hn
      have h1 := ih (by omega)
      have h2 := sum_frame h (f := n) (by omega)
      show _ ≤ npts R Fm T S n + npt R T (nst R Fm S n)
      omega
  have := key 10 (by omega)
  rwa [nst_end h] at this
/-- a frame's own points -/
theorem own_low (h : SInv R Fm T S) {M f : Nat} (hE : EX M R Fm T S) (hf : f < 10) (hm : nmk R T (nst R Fm S f) = 0) : npt R T (nst R Fm S f) ≤ 10 := by
  unfold npt
  rw [if_pos hm]
  by_cases c : f ≤ Fm
  · have e : nst R Fm S f = S f := if_pos c
    rw [e] at hm ⊢
    have h10 : ntk R T (S f) ≠ 10 := by
      intro z
      unfold nmk at hm
      rw [if_pos z] at hm
      omega
    by_cases c1 : S f + 1 < R
    · have e1 : ntk R T (S f) = T (S f) := if_pos (by omega)
      have e2 : ntk R T (S f + 1) = T (S f + 1) := if_pos c1
      rw [e1] at h10
      have := hE.1 f hf c c1 h10
      rw [e1, e2]
      omega
    · have e2 : ntk R T (S f + 1) = 0 := if_neg c1
      have := ntk_le h (S f)
      rw [e2]
      omega
  · have e : nst R Fm S f = R := if_neg c
    rw [e]
    have e1 : ntk R T R = 0 := if_neg (by omega)
    have e2 : ntk R T (R + 1) = 0 := if_neg (by omega)
    rw [e1, e2]
    omega
theorem own_high (h : SInv R Fm T S) {i : Nat} (hm : nmk R T i ≠ 0) : 10 ≤ npt R T i := by
  unfold npt
  rw [if_neg hm]
  unfold nmk at hm
  split at hm
  · rename_i c
    omega
  · split at hm
    · rename_i c
      omega
    · exact absurd rfl hm
theorem mk2_two (h : SInv R Fm T S) {f : Nat} (hf : f < 10) (hm : nmk R T (nst R Fm S f) = 2) : 2 ≤ nin R Fm S f := by
  rcases Nat.lt_or_ge f 9 with z | z
  · have := (nin2 h z).2.2 hm
    omega
  · have e9 : f = 9 := by omega
    subst e9
    by_cases c : 9 ≤ Fm
    · have e : nst R Fm S 9 = S 9 := if_pos c
      rw [e] at hm
      have e10 := nst_end h
      show 2 ≤ nst R Fm S 10 - nst R Fm S 9
      rw [e10, e]
      by_cases c1 : S 9 + 1 < R
      · omega
      · exfalso
        unfold nmk at hm
        have e2 : ntk R T (S 9 + 1) = 0 := if_neg c1
        rw [e2] at hm
        split at hm
        · omega
        · split at hm <;> omega
    · exfalso
      have e : nst R Fm S 9 = R := if_neg c
      rw [e] at hm
      unfold nmk at hm
      have e1 : ntk R T R = 0 := if_neg (by omega)
      have e2 : ntk R T (R + 1) = 0 := if_neg (by omega)
      rw [e1, e2] at hm
      simp at hm
end EXs
theorem npop_mono {M N : Nat} (h : ∀ k, k < 10 → M.testBit k = true → N.testBit k = true) : ∀ n, n ≤ 10 → npop M n ≤ npop N n := by
  intro n
  induction n with
  | zero => intro _; exact Nat.le_refl _
  | succ n ih =>
    intro hn
    have h1 := ih (by omega)
    have h2 := h n (by omega)
    unfold npop
    cases e : M.testBit n with
    | true => rw [h2 e]; omega
    | false => simp; omega
