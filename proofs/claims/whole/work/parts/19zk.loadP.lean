/-! the whole text: class and reference -/
abbrev foulAt (n : Nat) (S : kF) (i : Nat) : Prop := sgn n S i = 102 ∧ 48 ≤ sgn n S (i - 1) ∧ sgn n S (i - 1) ≤ 57
section LD
variable {n : Nat} {S : kF}
theorem foul_c {i : Nat} (hn : n ≤ 120) (h1 : 1 ≤ i) (hi : i < 900) : fn_X0_isFoulAt (nI n) S (nI i) = some (if foulAt n S i then 1 else 0) := by
  unfold fn_X0_isFoulAt
  rw [signAt_c hn (by omega), kbs, show nI i - (1 : Int32) = nI (i - 1) from pk_sub (b := 1) h1, signAt_c hn (by omega), kbs, btw, kbs]
  by_cases c : sgn n S i = 102
  · rw [if_pos c]
    by_cases d : 48 ≤ sgn n S (i - 1) ∧ sgn n S (i - 1) ≤ 57
    · rw [if_pos d, if_neg n10, if_pos (show foulAt n S i from ⟨c, d⟩)]
      rfl
    · rw [if_neg d, if_pos rfl, if_neg (show ¬ foulAt n S i from fun z => d z.2)]
      rfl
  · rw [if_neg c, if_neg (show ¬ foulAt n S i from fun z => c z.1)]
    rfl
theorem fe_39 {i k q : Nat} {A : Bool} (hn : n ≤ 120) (hk : k < 5) (h1 : 1 ≤ i) (hi : i ≤ n) (hA : fn_X0_isAllowed (nI k) (sgn n S i) (sgn n S (i - 1)) = some (if A = true then 1 else 0)) : fn_X0_firstError_39 (fn_X0_firstError_16 q) (nI n) S (nI k) (nI i) = if A = true then fn_X0_firstError_16 q (nI n) S (nI ((k + 1) % 5)) (nI (i + 1)) else some (nI i) := by
  unfold fn_X0_firstError_39 fn_X0_firstError_72 fn_X0_firstError_73
  rw [signAt_c hn (by omega), kbs, show nI i - (1 : Int32) = nI (i - 1) from pk_sub (b := 1) h1, signAt_c hn (by omega), kbs, hA, kbs, show nI i + 1 = nI (i + 1) from nI_1 i, show nI k + (1 : Int32) = nI (k + 1) from nI_1 k]
  cases A with
  | false => rfl
  | true =>
    rw [if_pos rfl, if_neg n10, if_pos rfl]
    by_cases c : k = 4
    · subst c; rfl
    · rw [if_neg (show ¬ nI k = (4 : Int32) from fun e => c ((nI_eq (b := 4) (by omega) (by omega)).mp e)), show (k + 1) % 5 = k + 1 from Nat.mod_eq_of_lt (by omega)]
theorem fe_st {i k q : Nat} {A : Bool} (hn : n ≤ 120) (hk : k < 5) (h1 : 1 ≤ i) (hi : i ≤ n) (hA : fn_X0_isAllowed (nI k) (sgn n S i) (sgn n S (i - 1)) = some (if A = true then 1 else 0)) (hAn : A = true → i < n) (hc : k ≠ 0 ∨ (i < n ∧ ¬ foulAt n S i)) : fn_X0_firstError_16 (q + 1) (nI n) S (nI k) (nI i) = if A = true then fn_X0_firstError_16 q (nI n) S (nI ((k + 1) % 5)) (nI (i + 1)) else some (nI i) := by
  show (if nI n ≤ nI i then (if nI k = 0 then _ else _) else (fn_X0_isFoulAt (nI n) S (nI i)).bind _) = _
  by_cases c : i < n
  · rw [if_neg (nI_ge c (by omega)), foul_c hn h1 (by omega), kbs, fe_39 hn hk h1 hi hA]
    by_cases f : foulAt n S i
    · rw [if_pos f, if_neg n10, if_neg (fun e => by have := (nI_eq0 (by omega)).mp e; rcases hc with z | z; exact z this; exact z.2 f)]
    · rw [if_neg f, if_pos rfl]
  · have e : i = n := by omega
    subst e
    have hk0 : k ≠ 0 := hc.elim id (fun z => absurd z.1 c)
    rw [if_pos (Int32.le_refl _), if_neg (fun e => hk0 ((nI_eq0 (by omega)).mp e))]
    cases A with
    | false => rfl
    | true => exact absurd (hAn rfl) c
theorem sgn_in {i : Nat} (h : sgn n S i ≠ -1) : i < n := by
  unfold sgn at h
  by_cases c : i < n
  · exact c
  · rw [if_neg c] at h; exact absurd rfl h
theorem al_2 {c p : Int32} (hd : fn_X0_driftOf c = some (dr c)) : fn_X0_isAllowed 2 c p = some (if (!decide (dr c = 3)) = true then 1 else 0) := by
  unfold fn_X0_isAllowed
  rw [if_neg (show ¬ (2 : Int32) = 0 by decide), if_neg (show ¬ (2 : Int32) = 1 by decide), if_pos rfl, hd, kbs]
  by_cases e : dr c = 3
  · rw [if_pos e]; simp [e]; rfl
  · rw [if_neg e]; simp [e]; rfl
theorem drift_c (hs : ∀ i, i < n → 0 ≤ S i ∧ S i ≤ 255) (i : Nat) : fn_X0_driftOf (sgn n S i) = some (dr (sgn n S i)) := by
  obtain ⟨m, hm, e⟩ := sgn_nat (i := i) hs
  rw [e]
  exact t_d ⟨m, hm⟩
theorem V0_in {i : Nat} (h : V0 (sgn n S i) = true) : i < n := sgn_in (fun e => by rw [e] at h; exact absurd h (by decide))
theorem V3_in {i : Nat} (h : V3 (sgn n S i) = true) : i < n := sgn_in (fun e => by rw [e] at h; exact absurd h (by decide))
theorem V1_dig {p c : Int32} (h : V1 p c = true) : 48 ≤ c := (of_decide_eq_true h).1
theorem V4_dig {p c : Int32} (h : V4 p c = true) : 48 ≤ c ∧ c ≤ 57 := by
  have h2 := of_decide_eq_true h
  constructor
  · refine Int32.le_trans ?_ h2.1
    split <;> decide
  · refine Int32.le_trans h2.2 ?_
    split <;> decide
theorem ge_in {i : Nat} (h : 48 ≤ sgn n S i) : i < n := sgn_in (fun e => by rw [e] at h; exact absurd h (by decide))
theorem fe_roll {i q : Nat} (hn : n ≤ 120) (h1 : 1 ≤ i) (hi : i < n) (hs : ∀ i, i < n → 0 ≤ S i ∧ S i ≤ 255) (hf : ¬ foulAt n S i) : (∀ j, perr n S i = some j → j ≤ n ∧ fn_X0_firstError_16 (q + 5) (nI n) S (nI 0) (nI i) = some (nI j)) ∧ (perr n S i = none → i + 5 ≤ n ∧ fn_X0_firstError_16 (q + 5) (nI n) S (nI 0) (nI i) = fn_X0_firstError_16 q (nI n) S (nI 0) (nI (i + 5))) := by
  have s0 := fe_st (q := q + 4) (k := 0) (A := V0 (sgn n S i)) hn (by omega) h1 (by omega) al_0 (fun _ => hi) (Or.inr ⟨hi, hf⟩)
  rw [show q + 5 = q + 4 + 1 from rfl, s0]
  unfold perr
  by_cases h0 : V0 (sgn n S i) = true
  · rw [if_pos h0, if_pos h0]
    have s1 := fe_st (i := i + 1) (q := q + 3) (k := 1) (A := V1 (sgn n S i) (sgn n S (i + 1))) hn (by omega) (by omega) (by omega) al_1 (fun h => ge_in (V1_dig h)) (Or.inl (by omega))
    rw [show (0 + 1) % 5 = 1 from rfl, show q + 4 = q + 3 + 1 from rfl, s1]
    by_cases hv1 : V1 (sgn n S i) (sgn n S (i + 1)) = true
    · have i1 : i + 1 < n := ge_in (V1_dig hv1)
      rw [if_pos hv1, if_pos hv1]
      have s2 := fe_st (i := i + 1 + 1) (q := q + 2) (k := 2) (A := !decide (dr (sgn n S (i + 2)) = 3)) hn (by omega) (by omega) (by omega) (al_2 (drift_c hs (i + 2))) (fun h => sgn_in (i := i + 2) (fun e => by rw [e] at h; exact absurd h (by decide))) (Or.inl (by omega))
      rw [show (1 + 1) % 5 = 2 from rfl, show q + 3 = q + 2 + 1 from rfl, s2]
      by_cases h2 : dr (sgn n S (i + 2)) = 3
      · rw [if_pos h2]
        simp only [decide_eq_true h2, Bool.not_true, Bool.false_eq_true, if_false]
        refine ⟨fun j hj => ?_, fun h => absurd h (by simp)⟩
        have := Option.some.inj hj
        subst this
        exact ⟨by omega, rfl⟩
      · have i2 : i + 2 < n := sgn_in (i := i + 2) (fun e => h2 (by rw [e]; rfl))
        rw [if_neg h2]
        simp only [decide_eq_false h2, Bool.not_false, if_true]
        have s3 := fe_st (i := i + 1 + 1 + 1) (q := q + 1) (k := 3) (A := V3 (sgn n S (i + 3))) hn (by omega) (by omega) (by omega) al_3 (fun h => V3_in (i := i + 3) h) (Or.inl (by omega))
        rw [show (2 + 1) % 5 = 3 from rfl, show q + 2 = q + 1 + 1 from rfl, s3]
        by_cases h3 : V3 (sgn n S (i + 3)) = true
        · have i3 : i + 3 < n := V3_in h3
          rw [if_pos h3, if_pos h3]
          have s4 := fe_st (i := i + 1 + 1 + 1 + 1) (q := q) (k := 4) (A := V4 (sgn n S (i + 3)) (sgn n S (i + 4))) hn (by omega) (by omega) (by omega) al_4 (fun h => ge_in (i := i + 4) (V4_dig h).1) (Or.inl (by omega))
          rw [show (3 + 1) % 5 = 4 from rfl, s4]
          by_cases h4 : V4 (sgn n S (i + 3)) (sgn n S (i + 4)) = true
          · have i4 : i + 4 < n := ge_in (V4_dig h4).1
            rw [if_pos h4, if_pos h4]
            exact ⟨fun j hj => absurd hj (by simp), fun _ => ⟨by omega, rfl⟩⟩
          · rw [if_neg h4, if_neg h4]
            refine ⟨fun j hj => ?_, fun h => absurd h (by simp)⟩
            have := Option.some.inj hj
            subst this
            exact ⟨by omega, rfl⟩
        · rw [if_neg h3, if_neg h3]
          refine ⟨fun j hj => ?_, fun h => absurd h (by simp)⟩
          have := Option.some.inj hj
          subst this
          exact ⟨by omega, rfl⟩
    · rw [if_neg hv1, if_neg hv1]
      refine ⟨fun j hj => ?_, fun h => absurd h (by simp)⟩
      have := Option.some.inj hj
      subst this
      exact ⟨by omega, rfl⟩
  · rw [if_neg h0, if_neg h0]
    refine ⟨fun j hj => ?_, fun h => absurd h (by simp)⟩
    have := Option.some.inj hj
    subst this
    exact ⟨by omega, rfl⟩
end LD
