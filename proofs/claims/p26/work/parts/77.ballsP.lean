/-! questions put to a deck -/
abbrev SD (M R Fm : Nat) (T S : Nat → Nat) (d : kDk) (r : kF) : Prop := SRel M R Fm T S d.1.1 d.1.2.1 d.1.2.2.1 d.1.2.2.2.1 d.1.2.2.2.2.2.2.1 d.1.2.2.2.2.2.2.2.1 d.1.2.2.2.2.2.2.2.2.1 d.1.2.2.2.2.2.2.2.2.2.1 d.1.2.2.2.2.2.2.2.2.2.2.1 d.1.2.2.2.2.2.2.2.2.2.2.2.1 d.1.2.2.2.2.2.2.2.2.2.2.2.2 r
abbrev dLe (d : kDk) : kF := d.1.2.2.2.2.2.2.1
abbrev dSh (d : kDk) : kF := d.1.2.2.2.2.2.2.2.1
abbrev dSe (d : kDk) : kF := d.1.2.2.2.2.2.2.2.2.2.2.2.2
section QD
variable {M R Fm : Nat} {T S : Nat → Nat} {d : kDk} {r : kF}
theorem q_about (h : SD M R Fm T S d r) {w : Nat} (hw : w < 10) : fn_L_call d 2 (nI w) 0 0 = some (abV d.1.1 d.1.2.1 d.1.2.2.1 M R Fm T S (dLe d) w, d) := by
  rw [call_2]
  unfold bk_tryAbout fn_L_tryAbout
  rw [ask_about h hw, kbs, if_pos rfl, kbs]
theorem q_pin (h : SD M R Fm T S d r) {k w : Nat} (hk : k < 10) (hw : w < 4) : fn_L_call d 3 (nI k) (nI w) 0 = some (pinV M (dLe d) (dSh d) k w, d) := by
  rw [call_3]
  unfold bk_tryPin fn_L_tryPin
  rw [ask_pin h hk hw, kbs, if_pos rfl, kbs]
theorem q_frame (h : SD M R Fm T S d r) {f w : Nat} (hf : f < 10) (hw : w < 3) : fn_L_call d 4 (nI f) (nI w) 0 = some (frmV R Fm T S f w, d) := by
  rw [call_4]
  unfold bk_tryFrame fn_L_tryFrame
  rw [ask_frame h hf hw, kbs, if_pos rfl, kbs]
theorem q_taken (h : SD M R Fm T S d r) {i : Nat} (hi : i < 100) : fn_L_call d 5 (nI i) 0 0 = some ((if i < R then nI (T i) else -9999001), d) := by
  rw [call_5]
  unfold bk_tryTaken fn_L_tryTaken
  rw [ask_taken h hi]
  by_cases c : i < R
  · rw [if_pos c, if_pos c, kbs, if_pos rfl, kbs]
  · rw [if_neg c, if_neg c, kbs, if_neg (show ¬ (3 : Int32) = 0 by decide), if_pos rfl, kbs]
theorem q_setting {i : Nat} (hi : i < 3) : fn_L_call d 6 (nI i) 0 0 = some (dSe d i, d) := by
  rw [call_6]
  unfold bk_trySetting fn_L_trySetting
  rw [ask_setting hi, kbs, if_pos rfl, kbs]
theorem q_drops (h : SD M R Fm T S d r) : bk_drops d = some (nI (nmask (fun k => M.testBit k && !decide (dLe d k ≤ dSe d 2)) 10), d) := by
  unfold bk_drops
  rw [ask_drops h, kbs]
theorem q_slow (h : SD M R Fm T S d r) : ∃ a : Nat, bk_slowest d = some (nI a, d) ∧ 1 ≤ a ∧ a ≤ 30 ∧ (90 : Int32) / nI a ≤ dSe d 0 ∧ (a = 1 ∨ ¬ (90 : Int32) / nI (a - 1) ≤ dSe d 0) := by
  obtain ⟨a, h1, h2⟩ := ask_slowest h.2.2.2.2.2.2
  refine ⟨a, ?_, h2⟩
  unfold bk_slowest
  rw [h1, kbs]
theorem q_would (h : SD M R Fm T S d r) {b w : Nat} {D : Int32} {lb : kF} (hB : BALL (dLe d) (dSh d) (nI b) D lb) (hb : b ≤ 40) (hD : -2 ≤ D ∧ D ≤ 2) (hw : w < 4) : ∃ t, fn_L_call d 10 (nI b) D (nI w) = some (wouV M (dLe d) lb (dSe d) w, dT d t) := by
  obtain ⟨t1, wl', wr', le', sh', e⟩ := ask_would (ttold := d.2.1.2.2.2.1) (twl := d.2.1.2.2.2.2.1) (twr := d.2.1.2.2.2.2.2.1) (tle := d.2.1.2.2.2.2.2.2.1) (tsh := d.2.1.2.2.2.2.2.2.2.1) h hB hb hD hw
  rw [call_10]
  unfold bk_tryWould fn_L_tryWould
  rw [e, kbs, if_pos rfl, kbs]
  exact ⟨_, rfl⟩
theorem q_best (h : SD M R Fm T S d r) {D : Int32} (hD : -2 ≤ D ∧ D ≤ 2) (lbs : Nat → kF) (hB : ∀ b, BALL (dLe d) (dSh d) (nI b) D (lbs b)) : ∃ (b : Nat) (t : kSt), fn_L_call d 11 D 0 0 = some (nI b, dT d t) ∧ b ≤ 40 ∧ ∀ j, j ≤ 40 → npop (M &&& nmore (lbs j) (dSe d 1)) 10 ≤ npop (M &&& nmore (lbs b) (dSe d 1)) 10 ∧ (j < b → npop (M &&& nmore (lbs j) (dSe d 1)) 10 < npop (M &&& nmore (lbs b) (dSe d 1)) 10) := by
  obtain ⟨b, t1, wl', wr', le', sh', e, h1, h2⟩ := ask_best (ttold := d.2.1.2.2.2.1) (twl := d.2.1.2.2.2.2.1) (twr := d.2.1.2.2.2.2.2.1) (tle := d.2.1.2.2.2.2.2.2.1) (tsh := d.2.1.2.2.2.2.2.2.2.1) h hD lbs hB
  rw [call_11]
  unfold bk_tryBest fn_L_tryBest
  rw [e, kbs, if_pos rfl, kbs]
  exact ⟨b, _, rfl, h1, h2⟩
theorem q_goes (h : SD M R Fm T S d r) {b : Nat} {D : Int32} (hb : b ≤ 40) (hD : -2 ≤ D ∧ D ≤ 2) : ∃ (a : Nat) (t : kSt), fn_L_call d 12 (nI b) D 0 = some (nI a, dT d t) ∧ npts R Fm T S 10 ≤ a ∧ a ≤ 300 ∧ (Fm = 10 → a = npts R Fm T S 10) := by
  obtain ⟨a, sto', dro', fou', told', wl', wr', rolls', frm', le', sh', tk', sr', se', e, h1⟩ := ask_goes (tsto := d.2.1.1) (tdro := d.2.1.2.1) (tfou := d.2.1.2.2.1) (ttold := d.2.1.2.2.2.1) (twl := d.2.1.2.2.2.2.1) (twr := d.2.1.2.2.2.2.2.1) (tle := d.2.1.2.2.2.2.2.2.1) (tsh := d.2.1.2.2.2.2.2.2.2.1) (trolls := d.2.1.2.2.2.2.2.2.2.2.1) (tfrm := d.2.1.2.2.2.2.2.2.2.2.2.1) (ttk := d.2.1.2.2.2.2.2.2.2.2.2.2.1) (tsr := d.2.1.2.2.2.2.2.2.2.2.2.2.2.1) (tse := d.2.1.2.2.2.2.2.2.2.2.2.2.2.2) h hb hD
  rw [call_12]
  unfold bk_tryGoes fn_L_tryGoes
  rw [e, kbs, if_pos rfl, kbs]
  exact ⟨a, _, rfl, h1⟩
end QD
theorem bits_eq {A : Nat} (hA : A < 1024) : fn_L_bits (nI A) = some (nI (npop A 10)) := by
  have key : ∀ (d k q : Nat), k + d = 10 → d < q → fn_L_bits_4 q (nI A) (nI (npop A k)) (nI k) = some (nI (npop A 10)) := by
    intro d
    induction d with
    | zero =>
      intro k q hk hq
      obtain ⟨q, rfl⟩ : ∃ z, q = z + 1 := ⟨q - 1, by omega⟩
      have hk : k = 10 := by omega
      subst hk
      rfl
    | succ d ih =>
      intro k q hk hq
      obtain ⟨q, rfl⟩ : ∃ z, q = z + 1 := ⟨q - 1, by omega⟩
      show (if (10 : Int32) ≤ nI k then _ else _) = _
      rw [if_neg (show ¬ (10 : Int32) ≤ nI k from ix_ge (n := 10) (by omega) (by omega)), n_bit hA (by omega), nI_add, nI_1]
      exact ih (k + 1) q (by omega) (by omega)
  exact key 10 0 4096 (by omega) (by omega)
theorem tk_facts {M : Nat} {le lb : kF} {x : Int32} (hM : M < 1024) (h4 : ∀ k, k < 10 → M.testBit k = true → le k ≠ 4) :
    nmask (P5 lb le) 10 &&& nmask (P6 lb) 10 = 0 ∧ npop (M &&& nmore lb x) 10 ≤ npop M 10 ∧ npop (nmask (P7 M (nmore lb x) lb) 10) 10 ≤ npop (M &&& nmore lb x) 10 ∧ npop (M &&& nmore lb x) 10 ≤ npop (nmask (P7 M (nmore lb x) lb) 10) 10 + npop (nmask (P5 lb le) 10) 10 := by
  refine ⟨?_, npop_mono (fun k hk hb => ?_) 10 (Nat.le_refl 10), npop_mono (fun k hk hb => ?_) 10 (Nat.le_refl 10), ?_⟩
  · refine mask_ext (and_lt (nmask_lt _ 10)) (by omega) (fun k hk => ?_)
    rw [Nat.testBit_and, nmask_bit, nmask_bit, Nat.zero_testBit]
    unfold P5 P6
    by_cases c : lb k = 4 <;> simp [c]
  · rw [Nat.testBit_and, Bool.and_eq_true] at hb
    exact hb.1
  · rw [nmask_bit] at hb
    unfold P7 at hb
    rw [nless_bit hk] at hb
    rw [Nat.testBit_and]
    cases e1 : M.testBit k <;> cases e2 : (nmore lb x).testBit k <;> simp [e1, e2] at hb ⊢
  · have key : ∀ n, n ≤ 10 → npop (M &&& nmore lb x) n ≤ npop (nmask (P7 M (nmore lb x) lb) 10) n + npop (nmask (P5 lb le) 10) n := by
      intro n
      induction n with
      | zero => intro _; exact Nat.le_refl 0
      | succ n ih =>
        intro hn
        have h1 := ih (by omega)
        unfold npop
        rw [Nat.testBit_and, nmask_bit, nmask_bit]
        have h5 := h4 n (by omega)
        have e7 : P7 M (nmore lb x) lb n = (!decide (lb n = 4) && (M.testBit n && !(M.testBit n && !(nmore lb x).testBit n))) := by
          unfold P7
          rw [nless_bit (by omega)]
        have e5 : P5 lb le n = (decide (lb n = 4) && !decide (le n = 4)) := rfl
        rw [e7, e5]
        generalize npop (nmask (P7 M (nmore lb x) lb) 10) n = A at h1 ⊢
        generalize npop (nmask (P5 lb le) 10) n = B at h1 ⊢
        generalize npop (M &&& nmore lb x) n = C at h1 ⊢
        generalize (nmore lb x).testBit n = y
        have hn10 : n < 10 := by omega
        cases e1 : M.testBit n with
        | false =>
          simp
          omega
        | true =>
          have h6 := h5 e1
          cases y with
          | false =>
            simp
            omega
          | true =>
            by_cases c : lb n = 4
            · simp [c, h6, hn10]
              omega
            · simp [c, h6, hn10]
              omega
    exact key 10 (Nat.le_refl 10)
set_option maxHeartbeats 4000000 in
theorem balls_all {d : kDk} {m : kMd} (h : DI d m) {X : Nat} (hX : X < 2 ^ 31) : ∃ t, fn_L_balls d (nI X) = some (1, dT d t) := by
  obtain ⟨M, R, Fm, T, S, hN, -⟩ := h.gd
  have hM : M < 1024 := hN.2.1.1
  have k5 : krem (nI X) 5 = nI (X % 5) := krem_n (c := 5) hX (by omega) (by omega)
  have d5' : nI X / 5 = nI (X / 5) := kdiv_n (c := 5) hX (by omega) (by omega)
  have k41 : krem (nI (X / 5)) 41 = nI (X / 5 % 41) := krem_n (c := 41) (by omega) (by omega) (by omega)
  have hD : -2 ≤ nI (X % 5) - 2 ∧ nI (X % 5) - 2 ≤ 2 := d5 (Nat.mod_lt _ (by omega))
  have hb : X / 5 % 41 ≤ 40 := by have := Nat.mod_lt (X / 5) (show 0 < 41 by omega); omega
  unfold fn_L_balls
  rw [k5, d5', k41]
  generalize nI (X % 5) - 2 = D at hD ⊢
  generalize X / 5 % 41 = b at hb ⊢
  have hBex := fun j : Nat => ball_ex hN.2.1.2.1 (nI j) D
  have hB := fun j : Nat => (hBex j).choose_spec
  obtain ⟨bb, t0, e0, hb0, hbest⟩ := q_best hN hD (fun j => (hBex j).choose) hB
  obtain ⟨t1, e1⟩ := q_would (d := dT d t0) (w := 0) hN (hB b) hb hD (by omega)
  obtain ⟨t2, e2⟩ := q_would (d := dT d t1) (w := 1) hN (hB b) hb hD (by omega)
  obtain ⟨t3, e3⟩ := q_would (d := dT d t2) (w := 2) hN (hB b) hb hD (by omega)
  obtain ⟨t4, e4⟩ := q_would (d := dT d t3) (w := 2) hN (hB bb) hb0 hD (by omega)
  obtain ⟨t5, e5⟩ := q_would (d := dT d t4) (w := 3) hN (hB b) hb hD (by omega)
  obtain ⟨t6, e6⟩ := q_would (d := dT d t5) (w := 3) hN (hB b) hb hD (by omega)
  obtain ⟨g, t7, e7, g1, g2, -⟩ := q_goes (d := dT d t6) hN hb hD
  obtain ⟨g', t8, e8, g1', g2', -⟩ := q_goes (d := dT d t7) hN hb hD
  obtain ⟨a, e9, a1, a2, a3, -⟩ := q_slow (d := dT d t8) hN
  have f := tk_facts (le := dLe d) (lb := (hBex b).choose) (x := dSe d 1) hM hN.2.1.2.2.2
  have hbb := hbest b hb
  generalize (hBex b).choose = lb at *
  generalize (hBex bb).choose = lbb at *
  obtain ⟨f1, f2, f3, f4⟩ := f
  have pM := npop_le M 10
  have pF := npop_le (nmask (P5 lb (dLe d)) 10) 10
  have pB := npop_le (M &&& nmore lbb (dSe d 1)) 10
  refine ⟨t8, ?_⟩
  refine (rgo e0).trans ?_
  refine (rgo e1).trans ?_
  refine (rgo e2).trans ?_
  refine (rgo e3).trans ?_
  refine (rgo e4).trans ?_
  refine (if_pos (show nI (nmask (P5 lb (dLe d)) 10) &&& nI (nmask (P6 lb) 10) = 0 by rw [n_and, f1]; rfl)).trans ?_
  refine (if_neg (show ¬ nI (npop (M &&& nmore lb (dSe d 1)) 10) < 0 from nI_pos (by omega))).trans ?_
  refine (rgo (q_about (d := dT d t4) (w := 7) hN (by omega))).trans ?_
  refine (if_neg (show ¬ nI (npop M 10) < nI (npop (M &&& nmore lb (dSe d 1)) 10) from nI_nlt f2 (by omega))).trans ?_
  refine (rgo e5).trans ?_
  refine (if_neg (show ¬ nI (npop (M &&& nmore lb (dSe d 1)) 10) < nI (npop (nmask (P7 M (nmore lb (dSe d 1)) lb) 10) 10) from nI_nlt f3 (by omega))).trans ?_
  refine (rgo e6).trans ?_
  have hbits := bits_eq (A := nmask (P5 lb (dLe d)) 10) (nmask_lt _ 10)
  refine (congrArg (fun z : Option Int32 => z.bind _) hbits).trans ?_
  refine (kbs _ _).trans ?_
  refine (if_neg (show ¬ nI (npop (nmask (P5 lb (dLe d)) 10) 10) < nI (npop (M &&& nmore lb (dSe d 1)) 10) - nI (npop (nmask (P7 M (nmore lb (dSe d 1)) lb) 10) 10) by rw [pk_sub f3]; exact nI_nlt (by omega) (by omega))).trans ?_
  refine (if_neg (show ¬ nI (npop (M &&& nmore lbb (dSe d 1)) 10) < nI (npop (M &&& nmore lb (dSe d 1)) 10) from nI_nlt hbb.1 (by omega))).trans ?_
  have last : fn_L_balls_150 (dT d t6) D (nI b) = some (1, dT d t8) := by
    unfold fn_L_balls_150
    refine (rgo e7).trans ?_
    refine (rgo (q_about (d := dT d t7) (w := 3) hN (by omega))).trans ?_
    refine (if_neg (show ¬ nI g < nI (npts R Fm T S 10) from nI_nlt g1 (by omega))).trans ?_
    refine (rgo e8).trans ?_
    refine (if_neg (show ¬ (300 : Int32) < nI g' from nI_nlt (a := 300) g2' (by omega))).trans ?_
    refine (rgo e9).trans ?_
    refine (if_neg (show ¬ nI a = 0 from fun z => by have := (nI_eq0 (by omega)).mp z; omega)).trans ?_
    refine (rgo (q_setting (d := dT d t8) (i := 0) (by omega))).trans ?_
    refine (if_neg (show ¬ dSe d 0 < 90 / nI a from Int32.not_lt.mpr a3)).trans ?_
    show fn_L_balls_209 (dT d t8) 1 = _
    unfold fn_L_balls_209
    exact if_pos (Or.inr rfl)
  by_cases c : npop (M &&& nmore lb (dSe d 1)) 10 < npop (M &&& nmore lbb (dSe d 1)) 10
  · refine (if_pos (show nI (npop (M &&& nmore lb (dSe d 1)) 10) < nI (npop (M &&& nmore lbb (dSe d 1)) 10) from nI_lt c (by omega))).trans ?_
    exact last
  · refine (if_neg (show ¬ nI (npop (M &&& nmore lb (dSe d 1)) 10) < nI (npop (M &&& nmore lbb (dSe d 1)) 10) from nI_nlt (by omega) (by omega))).trans ?_
    refine (if_neg (show ¬ nI b < nI bb from nI_nlt (by
      rcases Nat.lt_or_ge b bb with z | z
      · exact absurd (hbb.2 z) c
      · exact z) (by omega))).trans ?_
    exact last
