/-! two lanes that stand for one row are alike -/
theorem SRel.same {M R Fm M' R' Fm' : Nat} {T S T' S' : Nat → Nat} {sto dro fou told rolls frm sto2 dro2 fou2 told2 rolls2 frm2 : Int32} {le sh tk sr se le2 sh2 tk2 sr2 se2 r : kF} (h : SRel M R Fm T S sto dro fou told le sh rolls frm tk sr se r) (h2 : SRel M' R' Fm' T' S' sto2 dro2 fou2 told2 le2 sh2 rolls2 frm2 tk2 sr2 se2 r) : SRel M R Fm T S sto2 dro2 fou2 told2 le2 sh2 rolls2 frm2 tk2 sr2 se2 r := by
  obtain ⟨-, hP, hI, hC, hM, hX, hS⟩ := h
  obtain ⟨rfl, hP2, hI2, hC2, hM2, hX2, hS2⟩ := h2
  have eM : M' = M := by
    refine mask_ext hP2.1 hP.1 (fun k hk => ?_)
    have e := (hP2.2.2.1 k hk).symm.trans (hP.2.2.1 k hk)
    cases e1 : M'.testBit k <;> cases e2 : M.testBit k <;> rw [e1, e2] at e <;> first | rfl | exact absurd e (by decide)
  have hR := R_le hI
  have hR2 := R_le hI2
  have hF := hI.1
  have hF2 := hI2.1
  have eR : R' = R := (nI_eq (by omega) (by omega)).mp (hM2.1.symm.trans hM.1)
  have eF : Fm' = Fm := (nI_eq (by omega) (by omega)).mp (hM2.2.1.symm.trans hM.2.1)
  subst eM eR eF
  refine ⟨rfl, hP2, hI, ⟨hC2.1, hC2.2.1, fun i hi => ?_, fun f hf => ?_⟩, hM, hX2, hS2⟩
  · rw [hC2.2.2.1 i hi, ← hM2.2.2.1 i hi, hM.2.2.1 i hi]
  · by_cases c : f < 10
    · rw [hC2.2.2.2 f hf, ← hM2.2.2.2.1 f c hf, hM.2.2.2.1 f c hf]
    · have e10 : f = 10 := by omega
      subst e10
      have e11 : Fm' = 10 := by omega
      rw [hC2.2.2.2 10 hf, (hI.2.2.2.2.2.1 e11).1, (hI2.2.2.2.2.2.1 e11).1]
section AL
variable {M R Fm : Nat} {T S : Nat → Nat} {d z : kDk} {r : kF}
theorem SD.le_eq (h : SD M R Fm T S d r) (hz : SD M R Fm T S z r) {k : Nat} (hk : k < 10) : dLe z k = dLe d k ∧ dSh z k = dSh d k := by
  have a := h.2.1.2.1 k hk
  have b := hz.2.1.2.1 k hk
  exact ⟨b.1.symm.trans a.1, b.2.1.symm.trans a.2.1⟩
theorem SD.se_eq (h : SD M R Fm T S d r) (hz : SD M R Fm T S z r) {k : Nat} (hk : k < 3) : dSe z k = dSe d k := by
  obtain ⟨-, -, -, -, -, ⟨-, -, -, a4, a5, a6⟩, -⟩ := h
  obtain ⟨-, -, -, -, -, ⟨-, -, -, b4, b5, b6⟩, -⟩ := hz
  rcases (show k = 0 ∨ k = 1 ∨ k = 2 by omega) with e | e | e <;> subst e
  · exact b4.symm.trans a4
  · exact b5.symm.trans a5
  · exact b6.symm.trans a6
theorem SD.ab_eq (h : SD M R Fm T S d r) (hz : SD M R Fm T S z r) (w : Nat) : abV z.1.1 z.1.2.1 z.1.2.2.1 M R Fm T S (dLe z) w = abV d.1.1 d.1.2.1 d.1.2.2.1 M R Fm T S (dLe d) w := by
  have hl := nmore_congr (le := dLe d) (le' := dLe z) (x := 3) (fun k hk => (h.le_eq hz hk).1)
  obtain ⟨-, -, -, -, -, ⟨a1, a2, a3, -⟩, -⟩ := h
  obtain ⟨-, -, -, -, -, ⟨b1, b2, b3, -⟩, -⟩ := hz
  rw [b1.symm.trans a1, b2.symm.trans a2, b3.symm.trans a3]
  unfold abV
  rw [hl]
theorem SD.pin_eq (h : SD M R Fm T S d r) (hz : SD M R Fm T S z r) {k : Nat} (hk : k < 10) (w : Nat) : pinV M (dLe z) (dSh z) k w = pinV M (dLe d) (dSh d) k w := by
  unfold pinV
  rw [(h.le_eq hz hk).1, (h.le_eq hz hk).2]
theorem BALL.congr {le sh le2 sh2 lb : kF} {B D : Int32} (h : BALL le sh B D lb) (hk : ∀ k, k < 10 → le2 k = le k ∧ sh2 k = sh k) : BALL le2 sh2 B D lb := by
  refine ⟨h.1, fun wl wr le1 sh1 h1 => ?_⟩
  obtain ⟨wl', wr', le', sh', e1, e2, e3⟩ := h.2 wl wr le1 sh1 (fun k hk2 => ⟨(h1 k hk2).1.trans (hk k hk2).1, (h1 k hk2).2.trans (hk k hk2).2⟩)
  refine ⟨wl', wr', le', sh', e1, e2, e3.trans (congrArg nI (nmask_congr fun k hk2 => ?_))⟩
  unfold P5
  rw [(hk k hk2).1]
theorem best_two (h : SD M R Fm T S d r) (hz : SD M R Fm T S z r) {D : Int32} (hD : -2 ≤ D ∧ D ≤ 2) : ∃ (b : Nat) (t t' : kSt), b ≤ 40 ∧ fn_L_call d 11 D 0 0 = some (nI b, dT d t) ∧ fn_L_call z 11 D 0 0 = some (nI b, dT z t') := by
  have hBex := fun j : Nat => ball_ex h.2.1.2.1 (nI j) D
  have hB := fun j : Nat => (hBex j).choose_spec
  obtain ⟨b, t, e1, b1, b2⟩ := q_best h hD (fun j => (hBex j).choose) hB
  obtain ⟨b', t', e2, c1, c2⟩ := q_best hz hD (fun j => (hBex j).choose) (fun j => (hB j).congr (fun k hk => h.le_eq hz hk))
  rw [h.se_eq hz (k := 1) (by omega)] at c2
  have eb : b' = b := by
    have x1 := b2 b' c1
    have x2 := c2 b b1
    rcases Nat.lt_trichotomy b b' with g | g | g
    · have := x2.2 g
      have := x1.1
      omega
    · exact g.symm
    · have := x1.2 g
      have := x2.1
      omega
  subst eb
  exact ⟨b', t, t', b1, e1, e2⟩
theorem sim_two (h : SD M R Fm T S d r) (hz : SD M R Fm T S z r) {s : Int64} {n : Int32} (hn : 1 ≤ n ∧ n ≤ 60) : ∃ (a : Int32) (t t' : kSt), bk_doSimulate d s n = some (a, dT d t) ∧ bk_doSimulate z s n = some (a, dT z t') := by
  have key : ∀ {d : kDk}, SD M R Fm T S d r → ∃ (a : Int32) (t : kSt), bk_doSimulate d s n = some (a, dT d t) ∧ ∃ x y w, fn_X8_simulate 0 r r r r s n = some (a, 0, x, y, w) := by
    intro d h
    obtain ⟨a, sto', dro', fou', told', wl', wr', rolls', frm', le', sh', tk', sr', se', side', was', r', hd⟩ := sim_simulate (ref := 0) (x1 := s) (x3 := n) (trial := r) (side := r) (was := r) (tsto := d.2.1.1) (tdro := d.2.1.2.1) (tfou := d.2.1.2.2.1) (ttold := d.2.1.2.2.2.1) (twl := d.2.1.2.2.2.2.1) (twr := d.2.1.2.2.2.2.2.1) (tle := d.2.1.2.2.2.2.2.2.1) (tsh := d.2.1.2.2.2.2.2.2.2.1) (trolls := d.2.1.2.2.2.2.2.2.2.2.1) (tfrm := d.2.1.2.2.2.2.2.2.2.2.2.1) (ttk := d.2.1.2.2.2.2.2.2.2.2.2.2.1) (tsr := d.2.1.2.2.2.2.2.2.2.2.2.2.2.1) (tse := d.2.1.2.2.2.2.2.2.2.2.2.2.2.2) ⟨M, R, Fm, T, S, h⟩
    rcases hd with ⟨h0, -⟩ | ⟨-, h1, h2, -⟩
    · exact absurd hn h0
    · unfold bk_doSimulate fn_L_doSimulate
      rw [h1, kbs, if_pos rfl, kbs]
      exact ⟨a, _, rfl, _, _, _, h2⟩
  obtain ⟨a, t, e1, x, y, w, g1⟩ := key h
  obtain ⟨a', t', e2, x', y', w', g2⟩ := key hz
  rw [g1] at g2
  have e := congrArg Prod.fst (Option.some.inj g2)
  have e : a = a' := e
  subst e
  exact ⟨a, t, t', e1, e2⟩
theorem set_two (h : SD M R Fm T S d r) (hz : SD M R Fm T S z r) {k : Nat} (hk : k < 10) : ∃ a, fn_L_call d 6 (nI k) 0 0 = some (a, d) ∧ fn_L_call z 6 (nI k) 0 0 = some (a, z) := by
  by_cases c : k < 3
  · refine ⟨dSe d k, q_setting c, ?_⟩
    rw [q_setting c, h.se_eq hz c]
  · have e : fn_X7_isSetting (nI k) = some 0 := by
      rw [setting_c, if_neg (fun z => absurd z.2 (show ¬ nI k ≤ (2 : Int32) from nI_ge (a := 2) (by omega) (by omega)))]
    exact ⟨_, ref_setting e, ref_setting e⟩
theorem al_65 (h : SD M R Fm T S d r) (hz : SD M R Fm T S z r) {X : Nat} (hX : X < 2 ^ 31) : ∀ (e k q : Nat), k + e = 10 → e < q → fn_L_alike_65 q d z (nI X) 1 (nI k) = some (1, d, z) := by
  have k2 : krem (nI X) 2 = nI (X % 2) := krem_n (c := 2) hX (by omega) (by omega)
  have k3 : krem (nI X) 3 = nI (X % 3) := krem_n (c := 3) hX (by omega) (by omega)
  have l2 : X % 2 < 2 := Nat.mod_lt _ (by omega)
  have l3 : X % 3 < 3 := Nat.mod_lt _ (by omega)
  intro e
  induction e with
  | zero =>
    intro k q hk hq
    obtain ⟨q, rfl⟩ : ∃ z, q = z + 1 := ⟨q - 1, by omega⟩
    have hk : k = 10 := by omega
    subst hk
    show (if (10 : Int32) ≤ nI 10 then fn_L_alike_240 d z 1 else _) = _
    rw [if_pos (show (10 : Int32) ≤ nI 10 from Int32.le_refl _)]
    unfold fn_L_alike_240
    exact if_pos (Or.inr rfl)
  | succ e ih =>
    intro k q hk hq
    obtain ⟨q, rfl⟩ : ∃ z, q = z + 1 := ⟨q - 1, by omega⟩
    have hk10 : k < 10 := by omega
    refine Eq.trans ?_ (ih (k + 1) q (by omega) (by omega))
    show (if (10 : Int32) ≤ nI k then _ else _) = _
    rw [if_neg (show ¬ (10 : Int32) ≤ nI k from ix_ge (n := 10) hk10 (by omega)), if_neg (show ¬ (1 : Int32) = 0 by decide), k2, k3]
    rw [show (1 : Int32) + nI (X % 3) = nI (1 + X % 3) from nI_add 1 _, show (2 : Int32) * nI k + nI (X % 2) = nI (2 * k + X % 2) by rw [show (2 : Int32) * nI k = nI (2 * k) from pk_mul 2 k, nI_add]]
    obtain ⟨sv, s1, s2⟩ := set_two h hz hk10
    refine (rgo (q_about h hk10)).trans ?_
    refine (rgo (q_about hz hk10)).trans ?_
    refine (if_pos (h.ab_eq hz k).symm).trans ?_
    refine (rgo (q_pin h hk10 (w := 0) (by omega))).trans ?_
    refine (rgo (q_pin hz hk10 (w := 0) (by omega))).trans ?_
    refine (if_pos (h.pin_eq hz hk10 0).symm).trans ?_
    refine (rgo (q_pin h hk10 (w := 1 + X % 3) (by omega))).trans ?_
    refine (rgo (q_pin hz hk10 (w := 1 + X % 3) (by omega))).trans ?_
    refine (if_pos (h.pin_eq hz hk10 (1 + X % 3)).symm).trans ?_
    refine (rgo (q_frame h hk10 l3)).trans ?_
    refine (rgo (q_frame hz hk10 l3)).trans ?_
    refine (if_pos rfl).trans ?_
    refine (rgo (q_taken h (i := 2 * k + X % 2) (by omega))).trans ?_
    refine (rgo (q_taken hz (i := 2 * k + X % 2) (by omega))).trans ?_
    refine (if_pos rfl).trans ?_
    refine (rgo s1).trans ?_
    refine (rgo s2).trans ?_
    refine (if_pos rfl).trans ?_
    unfold fn_L_alike_233
    show fn_L_alike_65 q d z (nI X) 1 (nI k + 1) = _
    rw [nI_1]
end AL
theorem alike_all {d z : kDk} {m : kMd} (h : DI d m) (hz : DI z m) {X : Nat} (hX : X < 2 ^ 31) : ∃ t t', fn_L_alike d z (nI X) = some (1, dT d t, dT z t') := by
  obtain ⟨M, R, Fm, T, S, hN, -⟩ := h.gd
  obtain ⟨M', R', Fm', T', S', hZ', -⟩ := hz.gd
  have hZ : SD M R Fm T S z m.1 := SRel.same hN hZ'
  have k30 : krem (nI X) 30 = nI (X % 30) := krem_n (c := 30) hX (by omega) (by omega)
  have k5 : krem (nI X) 5 = nI (X % 5) := krem_n (c := 5) hX (by omega) (by omega)
  have l30 : X % 30 < 30 := Nat.mod_lt _ (by omega)
  have hD : -2 ≤ nI (X % 5) - 2 ∧ nI (X % 5) - 2 ≤ 2 := d5 (Nat.mod_lt _ (by omega))
  have hn : 1 ≤ (1 : Int32) + nI (X % 30) ∧ (1 : Int32) + nI (X % 30) ≤ 60 := by
    rw [show (1 : Int32) + nI (X % 30) = nI (1 + X % 30) from nI_add 1 _]
    exact ⟨nI_le (a := 1) (by omega) (by omega), nI_le (b := 60) (by omega) (by omega)⟩
  obtain ⟨a, t1, t2, e1, e2⟩ := sim_two hN hZ (s := (nI X).toInt64) hn
  obtain ⟨b, t3, t4, -, e3, e4⟩ := best_two (d := dT d t1) (z := dT z t2) hN hZ hD
  refine ⟨t3, t4, ?_⟩
  unfold fn_L_alike
  rw [k30, k5]
  refine (rgo e1).trans ?_
  refine (rgo e2).trans ?_
  refine (if_pos rfl).trans ?_
  refine (rgo e3).trans ?_
  refine (rgo e4).trans ?_
  refine (if_pos rfl).trans ?_
  unfold fn_L_alike_61
  exact al_65 (d := dT d t3) (z := dT z t4) hN hZ hX 10 0 12 (by omega) (by omega)
