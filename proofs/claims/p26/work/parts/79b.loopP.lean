/-! the law's loop and the law, on decks -/
theorem kcell_n (L : Nat) (xs : Nat → Int32) (i : Int32) : ∃ X : Nat, X < 2 ^ 31 ∧ kcell L xs i = nI X := by
  unfold kcell
  generalize (if Int32.ofNat L ≤ i then 15519053 * (i + 3) + 11243 else xs i.toNatClampNeg) = y
  exact ⟨y.toBitVec.toNat % 2 ^ 31, Nat.mod_lt _ (Nat.two_pow_pos 31), pk_and y 31 (by decide)⟩
theorem loop_34 {L : Nat} {xs : Nat → Int32} {N : Nat} (hN : N ≤ 28) : ∀ (e t q : Nat) {d z : kDk} {m : kMd}, t + e = N → e < q → DI d m → DI z m → ∃ (d' z' : kDk), fn_L_law_34 L xs q d z (nI N) 1 (nI t) = some (1, d', z') := by
  intro e
  induction e with
  | zero =>
    intro t q d z m ht hq h hz
    obtain ⟨q, rfl⟩ : ∃ z, q = z + 1 := ⟨q - 1, by omega⟩
    have ht : t = N := by omega
    subst ht
    refine ⟨d, z, ?_⟩
    show (if nI t ≤ nI t then fn_L_law_686 L xs d z 1 else _) = _
    rw [if_pos (Int32.le_refl _)]
    unfold fn_L_law_686
    exact if_pos (Or.inr rfl)
  | succ e ih =>
    intro t q d z m ht hq h hz
    obtain ⟨q, rfl⟩ : ∃ z, q = z + 1 := ⟨q - 1, by omega⟩
    obtain ⟨X, hX, eX⟩ := kcell_n L xs (1 + nI t)
    have kA : krem (nI X) 100000 = nI (X % 100000) := krem_n (c := 100000) hX (by omega) (by omega)
    have kB : krem (nI X) 1000 = nI (X % 1000) := krem_n (c := 1000) hX (by omega) (by omega)
    have kC : krem (nI X) 5000 = nI (X % 5000) := krem_n (c := 5000) hX (by omega) (by omega)
    have lA : X % 100000 < 100000 := Nat.mod_lt _ (by omega)
    have lB : X % 1000 < 1000 := Nat.mod_lt _ (by omega)
    have lC : X % 5000 < 5000 := Nat.mod_lt _ (by omega)
    have dv3 : nI X / 3 = nI (X / 3) := kdiv_n (c := 3) hX (by omega) (by omega)
    have dv5 : nI X / 5 = nI (X / 5) := kdiv_n (c := 5) hX (by omega) (by omega)
    obtain ⟨t1, e1⟩ := refuses_all hz lA
    obtain ⟨a, d1, z1, m1, e2, e3, hd1, hz1⟩ := act_two h (hz.t t1) (nI X)
    obtain ⟨t2, e4⟩ := refuses_all hz1 (show X % 1000 < 100000 by omega)
    obtain ⟨t3, t4, e5⟩ := alike_all hd1 (hz1.t t2) (show X % 5000 < 2 ^ 31 by omega)
    have hneg : ¬ ((1 : Int32) + nI t) < 0 := by
      rw [show (1 : Int32) + nI t = nI (1 + t) from nI_add 1 t]
      exact nI_pos (by omega)
    have go : ∀ {d2 z2 : kDk}, DI d2 m1 → DI z2 m1 → ∃ d' z', fn_L_law_150 L xs (fn_L_law_34 L xs q) d2 z2 (nI N) (nI t) (nI X) 1 = some (1, d', z') := by
      intro d2 z2 h2 hz2
      obtain ⟨d3, z3, m3, h3, hz3, e6⟩ := t_150 (L := L) (xs := xs) (q34 := fn_L_law_34 L xs q) (x3 := nI N) (x5 := nI t) h2 hz2 hX
      obtain ⟨d4, z4, e7⟩ := ih (t + 1) q (by omega) (by omega) h3 hz3
      refine ⟨d4, z4, e6.trans ?_⟩
      rw [nI_1]
      exact e7
    have pre : ∀ Y : Option (Int32 × kDk × kDk), (if krem (nI t) 2 = 0 then (fn_L_holds (dT d1 t3) (nI (X / 3))).bind fun o125 => if o125.1 = 0 then fn_L_law_149 L xs (fn_L_law_34 L xs q) o125.2 (dT z1 t4) (nI N) (nI t) (nI X) else fn_L_law_145 L xs (fn_L_law_34 L xs q) o125.2 (dT z1 t4) (nI N) (nI t) (nI X) else (fn_L_holds (dT z1 t4) (nI (X / 5))).bind fun o139 => if o139.1 = 0 then fn_L_law_149 L xs (fn_L_law_34 L xs q) (dT d1 t3) o139.2 (nI N) (nI t) (nI X) else fn_L_law_145 L xs (fn_L_law_34 L xs q) (dT d1 t3) o139.2 (nI N) (nI t) (nI X)) = Y → fn_L_law_34 L xs (q + 1) d z (nI N) 1 (nI t) = Y := by
      intro Y hY
      show (if nI N ≤ nI t then _ else _) = _
      rw [if_neg (nI_ge (show t < N by omega) (by omega)), if_neg (show ¬ (1 : Int32) = 0 by decide), if_neg hneg, eX, kA, kB, kC, dv3, dv5]
      refine (rgo e2).trans ?_
      refine (rgo e1).trans ?_
      refine (if_neg (show ¬ (1 : Int32) = 0 by decide)).trans ?_
      refine (rgo e3).trans ?_
      refine (if_pos rfl).trans ?_
      refine (rgo e4).trans ?_
      refine (if_neg (show ¬ (1 : Int32) = 0 by decide)).trans ?_
      refine (congrArg (fun z : Option (Int32 × kDk × kDk) => z.bind _) e5).trans ?_
      refine (kbs _ _).trans ?_
      refine (if_neg (show ¬ (1 : Int32) = 0 by decide)).trans ?_
      exact hY
    by_cases c : krem (nI t) 2 = 0
    · obtain ⟨t5, e6⟩ := holds_all (hd1.t t3) (show X / 3 < 2 ^ 31 by omega)
      obtain ⟨d', z', e7⟩ := go (d2 := dT d1 t5) (z2 := dT z1 t4) hd1 hz1
      refine ⟨d', z', pre _ ?_⟩
      rw [if_pos c]
      refine (rgo e6).trans ?_
      refine (if_neg (show ¬ (1 : Int32) = 0 by decide)).trans ?_
      exact e7
    · obtain ⟨t5, e6⟩ := holds_all (hz1.t t4) (show X / 5 < 2 ^ 31 by omega)
      obtain ⟨d', z', e7⟩ := go (d2 := dT d1 t3) (z2 := dT z1 t5) hd1 hz1
      refine ⟨d', z', pre _ ?_⟩
      rw [if_neg c]
      refine (rgo e6).trans ?_
      refine (if_neg (show ¬ (1 : Int32) = 0 by decide)).trans ?_
      exact e7
/-- the decks that are made -/
abbrev kD0 : kDk := (kS0, kS0, kZ, 0, 0, 0, kZ, kS0s, kS0s)
def kR0 : kF := fun i => if 20 ≤ i ∧ i < 30 then 1 else if i = 76 then 18 else if i = 77 then 2 else if i = 78 then 1 else 0
theorem start_DI : DI kD0 (kR0, kZ, kZ, kZ, 0) := by
  have hX : RX 0 0 0 kSe0 kR0 := ⟨by decide, by decide, by decide, by decide, by decide, by decide⟩
  have hS : SE kSe0 := by
    refine ⟨?_, ?_⟩
    · rw [show kSe0 0 = 18 by decide +kernel]; decide
    · rw [show kSe0 1 = 2 by decide +kernel]; decide
  have hN : SREL 0 0 0 1023 kZ kZ 0 0 kZ kZ kSe0 kR0 := by
    refine SREL.fresh (fun j _ => ⟨rfl, rfl⟩) (fun j hj => ⟨?_, ?_, ?_⟩) (fun i hi hi2 => ?_) rfl hX hS
    · unfold kR0
      rw [if_neg (by omega), if_neg (by omega), if_neg (by omega), if_neg (by omega)]
    · unfold kR0
      rw [if_neg (by omega), if_neg (by omega), if_neg (by omega), if_neg (by omega)]
    · unfold kR0
      rw [if_pos (by omega)]
    · unfold kR0
      rw [if_neg (by omega), if_neg (by omega), if_neg (by omega), if_neg (by omega)]
  refine ⟨?_, ⟨0, 0, by omega, by omega, rfl, rfl, rfl, fun j h => absurd h (Nat.not_lt_zero j)⟩, fun i _ => ⟨rfl, fun h => absurd rfl h⟩⟩
  obtain ⟨M, R, Fm, T, S, h⟩ := hN
  refine ⟨M, R, Fm, T, S, h, ?_⟩
  have hI := h.2.2.1
  have hC := h.2.2.2.1
  have e1 : R = 0 := ((nI_eq (a := 0) (by omega) (by have := R_le hI; omega)).mp hC.1).symm
  have e2 : Fm = 0 := ((nI_eq (a := 0) (by omega) (by have := hI.1; omega)).mp hC.2.1).symm
  subst e1 e2
  exact EX_0 hI.2.1
theorem law_true (L : Nat) (xs : Nat → Int32) : ∃ d' z', fn_L_law L xs kD0 kD0 = some (1, d', z') := by
  obtain ⟨X, hX, eX⟩ := kcell_n L xs 0
  have k21 : krem (nI X) 21 = nI (X % 21) := krem_n (c := 21) hX (by omega) (by omega)
  have l21 : X % 21 < 21 := Nat.mod_lt _ (by omega)
  obtain ⟨d', z', e⟩ := loop_34 (L := L) (xs := xs) (N := 8 + X % 21) (by omega) (8 + X % 21) 0 30 (by omega) (by omega) start_DI start_DI
  refine ⟨d', z', ?_⟩
  unfold fn_L_law
  rw [if_neg (show ¬ (0 : Int32) < 0 by decide), eX, k21, show (8 : Int32) + nI (X % 21) = nI (8 + X % 21) from nI_add 8 _]
  exact e
