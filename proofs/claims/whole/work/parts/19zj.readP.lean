/-! reading a roll: class and reference -/
def dr (c : Int32) : Int32 := if c = 107 then -1 else if c = 108 then -2 else if c = 109 then 0 else if c = 114 then 1 else if c = 115 then 2 else 3
theorem t_d : ∀ m : Fin 257, fn_X0_driftOf (nI m.val - 1) = some (dr (nI m.val - 1)) := by decide +kernel
theorem dr_ok {c : Int32} (h : dr c ≠ 3) : -2 ≤ dr c ∧ dr c ≤ 2 := by
  unfold dr at h ⊢
  by_cases c1 : c = 107
  · rw [if_pos c1]; decide
  · rw [if_neg c1] at h ⊢
    by_cases c2 : c = 108
    · rw [if_pos c2]; decide
    · rw [if_neg c2] at h ⊢
      by_cases c3 : c = 109
      · rw [if_pos c3]; decide
      · rw [if_neg c3] at h ⊢
        by_cases c4 : c = 114
        · rw [if_pos c4]; decide
        · rw [if_neg c4] at h ⊢
          by_cases c5 : c = 115
          · rw [if_pos c5]; decide
          · rw [if_neg c5] at h
            exact absurd rfl h
theorem dm_eq {α : Type} (K : Int32 → α) (c : Int32) : (if c = 108 then K (-2) else if c = 107 then K (-1) else if c = 109 then K 0 else if c = 114 then K 1 else if c = 115 then K 2 else K 9) = K (if dr c = 3 then 9 else dr c) := by
  by_cases c1 : c = 108
  · subst c1; rfl
  · rw [if_neg c1]
    by_cases c2 : c = 107
    · subst c2; rfl
    · rw [if_neg c2]
      by_cases c3 : c = 109
      · subst c3; rfl
      · rw [if_neg c3]
        by_cases c4 : c = 114
        · subst c4; rfl
        · rw [if_neg c4]
          by_cases c5 : c = 115
          · subst c5; rfl
          · rw [if_neg c5]
            unfold dr
            rw [if_neg c2, if_neg c1, if_neg c3, if_neg c4, if_neg c5, if_pos rfl]
theorem t_r0 : ∀ a : Fin 5, ∀ m : Fin 257, V1 (nI (48 + a.val)) (nI m.val - 1) = true → 0 ≤ nmb (nI (48 + a.val)) (nI m.val - 1) ∧ nmb (nI (48 + a.val)) (nI m.val - 1) ≤ 40 := by decide +kernel
theorem t_r3 : ∀ a : Fin 4, ∀ m : Fin 257, V4 (nI (48 + a.val)) (nI m.val - 1) = true → 1 ≤ nmb (nI (48 + a.val)) (nI m.val - 1) ∧ nmb (nI (48 + a.val)) (nI m.val - 1) ≤ 30 := by decide +kernel
/-- where a roll that begins here fails -/
def perr (n : Nat) (S : kF) (i : Nat) : Option Nat := if V0 (sgn n S i) = true then if V1 (sgn n S i) (sgn n S (i + 1)) = true then if dr (sgn n S (i + 2)) = 3 then some (i + 2) else if V3 (sgn n S (i + 3)) = true then if V4 (sgn n S (i + 3)) (sgn n S (i + 4)) = true then none else some (i + 4) else some (i + 3) else some (i + 1) else some i
section RD
variable {n i : Nat} {S : kF}
theorem perr_ok (h : perr n S i = none) : V0 (sgn n S i) = true ∧ V1 (sgn n S i) (sgn n S (i + 1)) = true ∧ dr (sgn n S (i + 2)) ≠ 3 ∧ V3 (sgn n S (i + 3)) = true ∧ V4 (sgn n S (i + 3)) (sgn n S (i + 4)) = true := by
  unfold perr at h
  by_cases h0 : V0 (sgn n S i) = true
  · rw [if_pos h0] at h
    by_cases h1 : V1 (sgn n S i) (sgn n S (i + 1)) = true
    · rw [if_pos h1] at h
      by_cases h2 : dr (sgn n S (i + 2)) = 3
      · rw [if_pos h2] at h; exact absurd h (by simp)
      · rw [if_neg h2] at h
        by_cases h3 : V3 (sgn n S (i + 3)) = true
        · rw [if_pos h3] at h
          by_cases h4 : V4 (sgn n S (i + 3)) (sgn n S (i + 4)) = true
          · exact ⟨h0, h1, h2, h3, h4⟩
          · rw [if_neg h4] at h; exact absurd h (by simp)
        · rw [if_neg h3] at h; exact absurd h (by simp)
    · rw [if_neg h1] at h; exact absurd h (by simp)
  · rw [if_neg h0] at h; exact absurd h (by simp)
theorem rng0 (hs : ∀ i, i < n → 0 ≤ S i ∧ S i ≤ 255) (h0 : V0 (sgn n S i) = true) (h1 : V1 (sgn n S i) (sgn n S (i + 1)) = true) : 0 ≤ nmb (sgn n S i) (sgn n S (i + 1)) ∧ nmb (sgn n S i) (sgn n S (i + 1)) ≤ 40 := by
  obtain ⟨m1, hm1, e1⟩ := sgn_nat (i := i + 1) hs
  obtain ⟨a, ha, ea⟩ := V0_nat h0
  rw [ea, e1] at h1 ⊢
  exact t_r0 ⟨a, ha⟩ ⟨m1, hm1⟩ h1
theorem rng3 (hs : ∀ i, i < n → 0 ≤ S i ∧ S i ≤ 255) (h0 : V3 (sgn n S i) = true) (h1 : V4 (sgn n S i) (sgn n S (i + 1)) = true) : 1 ≤ nmb (sgn n S i) (sgn n S (i + 1)) ∧ nmb (sgn n S i) (sgn n S (i + 1)) ≤ 30 := by
  obtain ⟨m1, hm1, e1⟩ := sgn_nat (i := i + 1) hs
  obtain ⟨a, ha, ea⟩ := V3_nat h0
  rw [ea, e1] at h1 ⊢
  exact t_r3 ⟨a, ha⟩ ⟨m1, hm1⟩ h1
theorem nm1 {x : Int32} {b : Int32} (h : 0 ≤ x) : ¬ x = -1 := fun e => by subst e; exact absurd h (by decide)
variable {out : Int32} {side was r : kF}
theorem read_bad (hn : n ≤ 120) (hi : i ≤ n) (hs : ∀ i, i < n → 0 ≤ S i ∧ S i ≤ 255) {j : Nat} (h : perr n S i = some j) : fn_X8_readRoll (nI n) (nI i) out S side was r = some (0, nI j, out, side, was, r) := by
  unfold fn_X8_readRoll
  rw [fig40 hn (by omega) hs]
  unfold perr at h
  by_cases h0 : V0 (sgn n S i) = true
  · rw [if_pos h0] at h ⊢
    by_cases h1 : V1 (sgn n S i) (sgn n S (i + 1)) = true
    · rw [if_pos h1] at h ⊢
      have hr := rng0 hs h0 h1
      rw [kbs, if_neg (nm1 (b := 0) hr.1), at_m hn (by omega), kbs]
      refine (dm_eq (fun z => fn_X8_readRoll_77 (nI n) (nI (i + 2)) out S side was r (nmb (sgn n S i) (sgn n S (i + 1))) z) (sgn n S (i + 2))).trans ?_
      show fn_X8_readRoll_77 _ _ _ _ _ _ _ _ _ = _
      unfold fn_X8_readRoll_77
      by_cases h2 : dr (sgn n S (i + 2)) = 3
      · rw [if_pos h2] at h ⊢
        rw [if_pos rfl, Option.some.inj h]
      · rw [if_neg h2] at h ⊢
        have h9 : ¬ dr (sgn n S (i + 2)) = 9 := fun e => absurd (dr_ok h2).2 (by rw [e]; decide)
        rw [if_neg h9, nI_1, show i + 2 + 1 = i + 3 from rfl, fig30 hn (by omega) hs]
        by_cases h3 : V3 (sgn n S (i + 3)) = true
        · rw [if_pos h3] at h ⊢
          by_cases h4 : V4 (sgn n S (i + 3)) (sgn n S (i + 4)) = true
          · rw [if_pos h4] at h; exact absurd h (by simp)
          · rw [if_neg h4] at h
            rw [show i + 3 + 1 = i + 4 from rfl, if_neg h4, kbs, if_pos rfl, Option.some.inj h]
        · rw [if_neg h3] at h ⊢
          rw [kbs, if_pos rfl, Option.some.inj h]
    · rw [if_neg h1] at h ⊢
      rw [kbs, if_pos rfl, Option.some.inj h]
  · rw [if_neg h0] at h ⊢
    rw [kbs, if_pos rfl, Option.some.inj h]
theorem read_ok (hn : n ≤ 120) (hi : i ≤ n) (hs : ∀ i, i < n → 0 ≤ S i ∧ S i ≤ 255) (h : perr n S i = none) : fn_X8_readRoll (nI n) (nI i) out S side was r = fn_X8_readRoll_150 (nI n) (nI (i + 5)) out S side was r (nmb (sgn n S i) (sgn n S (i + 1))) (dr (sgn n S (i + 2))) (nmb (sgn n S (i + 3)) (sgn n S (i + 4))) (if sgn n S (i + 5) = 102 then 1 else 0) (nI (i + 5)) (if sgn n S (i + 5) = 102 then 1 else 0) := by
  obtain ⟨h0, h1, h2, h3, h4⟩ := perr_ok h
  have hr := rng0 hs h0 h1
  have hr3 := rng3 hs h3 h4
  unfold fn_X8_readRoll
  rw [fig40 hn (by omega) hs, if_pos h0, if_pos h1, kbs, if_neg (nm1 (b := 0) hr.1), at_m hn (by omega), kbs]
  refine (dm_eq (fun z => fn_X8_readRoll_77 (nI n) (nI (i + 2)) out S side was r (nmb (sgn n S i) (sgn n S (i + 1))) z) (sgn n S (i + 2))).trans ?_
  show fn_X8_readRoll_77 _ _ _ _ _ _ _ _ _ = _
  unfold fn_X8_readRoll_77
  have h9 : ¬ dr (sgn n S (i + 2)) = 9 := fun e => absurd (dr_ok h2).2 (by rw [e]; decide)
  rw [if_neg h2, if_neg h9, nI_1, show i + 2 + 1 = i + 3 from rfl, fig30 hn (by omega) hs, if_pos h3, show i + 3 + 1 = i + 4 from rfl, if_pos h4, kbs, if_neg (nm1 (b := 0) (Int32.le_trans (by decide) hr3.1)), show i + 3 + 2 = i + 5 from rfl, at_m hn (by omega), kbs]
  by_cases c : sgn n S (i + 5) = 102
  · rw [if_pos c, if_pos c]
    rfl
  · rw [if_neg c, if_neg c]
    rfl
end RD
