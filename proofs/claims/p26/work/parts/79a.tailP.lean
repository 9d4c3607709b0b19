/-! a ball as it was told, and its undo -/
theorem thrown_n {v : Nat} (hv : v < 2 ^ 31) : fn_L_thrown (nI v) = some 0 := by
  have hp := nI_pos' hv
  have h1 : nI v ≠ (-9999001 : Int32) := fun e => by rw [e] at hp; exact absurd hp (by decide)
  have h2 : nI v ≠ (-9999002 : Int32) := fun e => by rw [e] at hp; exact absurd hp (by decide)
  have h3 : nI v ≠ (-9999003 : Int32) := fun e => by rw [e] at hp; exact absurd hp (by decide)
  unfold fn_L_thrown fn_L_thrown_23
  rw [if_neg h1, if_neg h2, if_neg h3]
  exact if_pos (Or.inl rfl)
/-- what is remembered stands last -/
theorem rem_m {s : Nat} {now diary : kF} (hs : s ≤ 14) : ∃ (s' : Nat) (diary' : kF), fn_X8_remember (nI s) now diary = some (nI (s' + 1), diary') ∧ s' < 14 ∧ ∀ i, i < 79 → diary' (79 * s' + i) = now i := by
  by_cases c : s = 14
  · subst c
    obtain ⟨d1, f1, f2⟩ := shift_loop (macts := nI 14) (now := now) (d0 := diary) 1027 0 4096 diary (by omega) (by omega) (fun i hi => absurd hi (Nat.not_lt_zero i)) (fun _ _ => rfl)
    obtain ⟨d2, g1, g2, g3⟩ := rem49 (s := 13) (now := now) (diary := d1) (by omega)
    refine ⟨13, d2, ?_, by omega, fun i hi => g2 i hi⟩
    unfold fn_X8_remember
    rw [if_pos (show nI 14 = (14 : Int32) from rfl), show (0 : Int32) = nI 0 from rfl, f1, show nI 14 - (1 : Int32) = nI 13 by decide, g1]
  · obtain ⟨d2, g1, g2, g3⟩ := rem49 (s := s) (now := now) (diary := diary) (by omega)
    refine ⟨s, d2, ?_, by omega, fun i hi => g2 i hi⟩
    unfold fn_X8_remember
    rw [if_neg (show ¬ nI s = (14 : Int32) from fun e => c ((nI_eq (b := 14) (by omega) (by omega)).mp e)), g1]
theorem undo_m {s' : Nat} {now diary : kF} (hs : s' < 14) : ∃ now', fn_X8_undo 0 (nI (s' + 1)) now diary = some (nI s', 0, nI s', now') ∧ ∀ i, i < 79 → now' i = diary (79 * s' + i) := by
  obtain ⟨now', e2, e3, -⟩ := copyState_eq (nf := 1106) (ng := 79) (f := diary) (g := now) (79 * s') 0 (by omega) (by omega) (by omega) (by omega)
  refine ⟨now', ?_, fun i hi => ?_⟩
  · have hz : ¬ nI (s' + 1) = 0 := fun e => by have := (nI_eq0 (by omega)).mp e; omega
    have es : nI (s' + 1) - (1 : Int32) = nI s' := pk_sub (a := s' + 1) (b := 1) (by omega)
    unfold fn_X8_undo
    rw [if_neg hz]
    unfold fn_X8_undo_13
    rw [refused_m, kbs, if_pos (Int32.le_refl _), if_pos rfl, es, show (79 : Int32) * nI s' = nI (79 * s') from pk_mul 79 _, show fn_X8_copyState 1106 79 diary now (nI (79 * s')) 0 = _ from e2, kbs]
  · have := e3 i hi
    rwa [Nat.zero_add] at this
theorem DI.row {d : kDk} {m : kMd} {r : kF} (h : DI d m) (hk : ∀ i, i < 79 → r i = m.1 i) : DI d (r, m.2) := ⟨KR2.row h.1 hk, h.2.1, h.2.2⟩
/-- a roll that isn't refused, told closely; behind it stands what was before -/
theorem roll_undo {d : kDk} {m : kMd} (h : DI d m) {M R Fm : Nat} {T S : Nat → Nat} (hN : SD M R Fm T S d m.1) (hF : Fm < 10) {b sp : Nat} {D : Int32} (hb : b ≤ 40) (hD : -2 ≤ D ∧ D ≤ 2) (h1 : 1 ≤ sp) (h30 : sp ≤ 30) :
    ∃ (s' : Nat) (diary' : kF), s' < 14 ∧ ∀ z : kDk, DI z m → ∃ (z1 : kDk) (m1 : kMd), (∃ a, bk_rolls z (nI b) D (nI sp) 0 = some (a, z1) ∧ m_roll m (nI b) D (nI sp) 0 = some (a, m1)) ∧ DI z1 m1 ∧ ∃ z2, fn_L_call z1 9 0 0 0 = some (nI s', z2) ∧ DI z2 (m.1, diary', m.2.2.1, m.2.2.2.1, nI s') := by
  obtain ⟨s, x, hs, -, -, -, hm, -⟩ := h.2.1
  obtain ⟨s', diary', hr, hs', hlast⟩ := rem_m (now := m.1) (diary := m.2.1) hs
  refine ⟨s', diary', hs', fun z hz => ?_⟩
  obtain ⟨hN0, hH, hG⟩ := hz
  have hNz : SR2 z.1.1 z.1.2.1 z.1.2.2.1 z.1.2.2.2.1 z.1.2.2.2.2.2.2.1 z.1.2.2.2.2.2.2.2.1 z.1.2.2.2.2.2.2.2.2.1 z.1.2.2.2.2.2.2.2.2.2.1 z.1.2.2.2.2.2.2.2.2.2.2.1 z.1.2.2.2.2.2.2.2.2.2.2.2.1 z.1.2.2.2.2.2.2.2.2.2.2.2.2 m.1 := hN0
  obtain ⟨M', R', Fm', T', S', hZ', -⟩ := hNz
  have hZ : SD M R Fm T S z m.1 := SRel.same hN hZ'
  obtain ⟨a, sto', dro', fou', told', wl', wr', rolls', frm', hsz', hnx', macts', le', sh', tk', sr', now', diary2, side', was', hs2, hd⟩ := sim_rollA_2 (ref := 0) (x1 := nI b) (x2 := D) (x3 := nI sp) (x4 := 0) (wl := z.1.2.2.2.2.1) (wr := z.1.2.2.2.2.2.1) (side := m.1) (was := m.1) hH hN0
  have hne : ∀ c v, fn_X7_roll z.1.1 z.1.2.1 z.1.2.2.1 z.1.2.2.2.1 z.1.2.2.2.2.1 z.1.2.2.2.2.2.1 z.1.2.2.2.2.2.2.1 z.1.2.2.2.2.2.2.2.1 z.1.2.2.2.2.2.2.2.2.1 z.1.2.2.2.2.2.2.2.2.2.1 z.1.2.2.2.2.2.2.2.2.2.2.1 z.1.2.2.2.2.2.2.2.2.2.2.2.1 z.1.2.2.2.2.2.2.2.2.2.2.2.2 z.2.2.2.2.1 z.2.2.2.2.2.1 z.2.2.2.2.2.2.2.1 (nI b) D (nI sp) 0 = some (c, v) → c = 0 := by
    intro c v e
    have hsp : fn_X7_isSpeed (nI sp) = some 1 := by rw [speed_c, if_pos ⟨nI_le (a := 1) h1 (by omega), nI_le (b := 30) h30 (by omega)⟩]
    have hov : fn_X4_isOver z.1.2.2.2.2.2.2.2.2.2.1 = some 0 := by
      rw [hZ.2.2.2.1.2.1, isOver_c (by omega), if_neg (by omega)]
    unfold fn_X7_roll at e
    rw [ball_k hb hD, kbs, if_neg n10, hsp, kbs, if_neg n10, hov, kbs, if_pos rfl] at e
    obtain ⟨o1, -, e⟩ := kbind e
    obtain ⟨o2, -, e⟩ := kbind e
    exact (congrArg Prod.fst (Option.some.inj e)).symm
  rcases hd with ⟨g1, -⟩ | ⟨g1, -⟩ | ⟨g1, g2, hH', hN', hR'⟩
  · exact absurd (hne _ _ g1) (by decide)
  · exact absurd (hne _ _ g1) (by decide)
  · have eR : fn_X8_remember m.2.2.2.2 m.1 m.2.1 = some (nI (s' + 1), diary') := by rw [hm]; exact hr
    rw [eR] at hR'
    have e0 := Option.some.inj hR'
    have em : nI (s' + 1) = macts' := congrArg Prod.fst e0
    have ed : diary' = diary2 := congrArg Prod.snd e0
    subst em ed
    refine ⟨((sto', dro', fou', told', wl', wr', le', sh', rolls', frm', tk', sr', z.1.2.2.2.2.2.2.2.2.2.2.2.2), z.2.1, z.2.2.1, z.2.2.2.1, hsz', hnx', z.2.2.2.2.2.2.1, hs2, z.2.2.2.2.2.2.2.2), (now', diary', m.2.2.1, m.2.2.2.1, nI (s' + 1)), ⟨a, ?_, ?_⟩, ⟨hN', hH', hG⟩, ?_⟩
    rotate_left
    · unfold m_roll
      rw [g2, kbs]
      rw [if_pos rfl]
    · obtain ⟨v, z2, m2, u1, u2, u3⟩ := act_undo (d := ((sto', dro', fou', told', wl', wr', le', sh', rolls', frm', tk', sr', z.1.2.2.2.2.2.2.2.2.2.2.2.2), z.2.1, z.2.2.1, z.2.2.2.1, hsz', hnx', z.2.2.2.2.2.2.1, hs2, z.2.2.2.2.2.2.2.2)) (m := (now', diary', m.2.2.1, m.2.2.2.1, nI (s' + 1))) ⟨hN', hH', hG⟩
      obtain ⟨now2, w1, w2⟩ := undo_m (s' := s') (now := now') (diary := diary') hs'
      unfold m_undo at u2
      rw [w1, kbs] at u2
      rw [if_pos rfl] at u2
      have e1 := Option.some.inj u2
      have ev : nI s' = v := congrArg Prod.fst e1
      have em2 : (now2, diary', m.2.2.1, m.2.2.2.1, nI s') = m2 := congrArg Prod.snd e1
      subst ev em2
      refine ⟨z2, ?_, u3.row (r := m.1) (fun i hi => ((w2 i hi).trans (hlast i hi)).symm)⟩
      rw [call_9]
      exact u1
    · unfold bk_rolls fn_L_rolls
      rw [g1, kbs, if_pos rfl, kbs]
/-- a roll out of its bowl -/
theorem roll_eq {d : kDk} {m : kMd} (h : DI d m) {M R Fm : Nat} {T S : Nat → Nat} (hN : SD M R Fm T S d m.1) (hF : Fm < 10) {b sp : Nat} {D : Int32} (hb : b ≤ 40) (hD : -2 ≤ D ∧ D ≤ 2) (h1 : 1 ≤ sp) (h30 : sp ≤ 30) :
    ∃ (hsz' hnx' : Int32) (hs' : Nat → kSt), ∀ o, fn_X6_bowl d.1.1 d.1.2.1 d.1.2.2.1 d.1.2.2.2.1 d.1.2.2.2.2.1 d.1.2.2.2.2.2.1 d.1.2.2.2.2.2.2.1 d.1.2.2.2.2.2.2.2.1 d.1.2.2.2.2.2.2.2.2.1 d.1.2.2.2.2.2.2.2.2.2.1 d.1.2.2.2.2.2.2.2.2.2.2.1 d.1.2.2.2.2.2.2.2.2.2.2.2.1 d.1.2.2.2.2.2.2.2.2.2.2.2.2 (nI b) D (nI sp) 0 = some o →
      bk_rolls d (nI b) D (nI sp) 0 = some (o.1, ((o.2.1, o.2.2.1, o.2.2.2.1, o.2.2.2.2.1, o.2.2.2.2.2.1, o.2.2.2.2.2.2.1, o.2.2.2.2.2.2.2.1, o.2.2.2.2.2.2.2.2.1, o.2.2.2.2.2.2.2.2.2.1, o.2.2.2.2.2.2.2.2.2.2.1, o.2.2.2.2.2.2.2.2.2.2.2.1, o.2.2.2.2.2.2.2.2.2.2.2.2, d.1.2.2.2.2.2.2.2.2.2.2.2.2), d.2.1, d.2.2.1, d.2.2.2.1, hsz', hnx', d.2.2.2.2.2.2.1, hs', d.2.2.2.2.2.2.2.2)) := by
  obtain ⟨hsz', hnx', macts', hs', diary', r1, -, -⟩ := sim_remember_2 h.2.1 h.1
  have hsp : fn_X7_isSpeed (nI sp) = some 1 := by rw [speed_c, if_pos ⟨nI_le (a := 1) h1 (by omega), nI_le (b := 30) h30 (by omega)⟩]
  have hov : fn_X4_isOver d.1.2.2.2.2.2.2.2.2.2.1 = some 0 := by
    rw [hN.2.2.2.1.2.1, isOver_c (by omega), if_neg (by omega)]
  refine ⟨hsz', hnx', hs', fun o ho => ?_⟩
  unfold bk_rolls fn_L_rolls fn_X7_roll
  rw [ball_k hb hD, kbs, if_neg n10, hsp, kbs, if_neg n10, hov, kbs, if_pos rfl, r1, kbs, ho, kbs, kbs, if_pos rfl, kbs]
/-- a ball that is stopped -/
theorem roll_stop {d : kDk} {m : kMd} (h : DI d m) {M R Fm : Nat} {T S : Nat → Nat} (hN : SD M R Fm T S d m.1) (hF : Fm < 10) {b sp : Nat} {D : Int32} (hb : b ≤ 40) (hD : -2 ≤ D ∧ D ≤ 2) (h1 : 1 ≤ sp) (h30 : sp ≤ 30) (hst : ¬ (90 : Int32) / nI sp ≤ dSe d 0) : ∃ d1, bk_rolls d (nI b) D (nI sp) 0 = some (-1, d1) := by
  obtain ⟨hsz', hnx', hs', hk⟩ := roll_eq h hN hF hb hD h1 h30
  have hx : ¬ nI sp < 1 := nI_nlt (b := 1) h1 (by omega)
  have hb2 := bowl_eq (sto := d.1.1) (dro := d.1.2.1) (fou := d.1.2.2.1) (told := d.1.2.2.2.1) (rolls := d.1.2.2.2.2.2.2.2.2.1) (frm := d.1.2.2.2.2.2.2.2.2.2.1) (x1 := nI b) (x2 := D) (x3 := nI sp) (x4 := 0) (wl := d.1.2.2.2.2.1) (wr := d.1.2.2.2.2.2.1) (le := d.1.2.2.2.2.2.2.1) (sh := d.1.2.2.2.2.2.2.2.1) (tk := d.1.2.2.2.2.2.2.2.2.2.2.1) (sr := d.1.2.2.2.2.2.2.2.2.2.2.2.1) (se := d.1.2.2.2.2.2.2.2.2.2.2.2.2) hx
  rw [if_neg hst] at hb2
  exact ⟨_, hk _ hb2⟩
/-- a ball that isn't -/
theorem roll_take {d : kDk} {m : kMd} (h : DI d m) {M R Fm : Nat} {T S : Nat → Nat} (hN : SD M R Fm T S d m.1) (hF : Fm < 10) {b sp : Nat} {D : Int32} {lb : kF} (hB : BALL (dLe d) (dSh d) (nI b) D lb) (hb : b ≤ 40) (hD : -2 ≤ D ∧ D ≤ 2) (h1 : 1 ≤ sp) (h30 : sp ≤ 30) (hst : (90 : Int32) / nI sp ≤ dSe d 0) :
    ∃ (t M' : Nat) (d1 : kDk) (r' : kF), bk_rolls d (nI b) D (nI sp) 0 = some (nI t, d1) ∧ t = npop (M &&& nmore lb (dSe d 1)) 10 ∧ SD M' (R + 1) (nF R Fm t T S) (tup T R t) (nS R Fm t T S) d1 r' ∧ (nkind R Fm t T S = 2 → ∀ k, k < 10 → lb k = 4 → dLe d1 k = 4) := by
  obtain ⟨hsz', hnx', hs', hk⟩ := roll_eq h hN hF hb hD h1 h30
  have hx : ¬ nI sp < 1 := nI_nlt (b := 1) h1 (by omega)
  have hb2 := bowl_eq (sto := d.1.1) (dro := d.1.2.1) (fou := d.1.2.2.1) (told := d.1.2.2.2.1) (rolls := d.1.2.2.2.2.2.2.2.2.1) (frm := d.1.2.2.2.2.2.2.2.2.2.1) (x1 := nI b) (x2 := D) (x3 := nI sp) (x4 := 0) (wl := d.1.2.2.2.2.1) (wr := d.1.2.2.2.2.2.1) (le := d.1.2.2.2.2.2.2.1) (sh := d.1.2.2.2.2.2.2.2.1) (tk := d.1.2.2.2.2.2.2.2.2.2.2.1) (sr := d.1.2.2.2.2.2.2.2.2.2.2.2.1) (se := d.1.2.2.2.2.2.2.2.2.2.2.2.2) hx
  rw [if_pos hst] at hb2
  obtain ⟨t, M', wl', wr', dro', fou', le', sh', tk', sr', side', was', r', k0, k1, k2, k3, k4, k5⟩ := sim_roll2 (x4 := 0) (wl := d.1.2.2.2.2.1) (wr := d.1.2.2.2.2.2.1) (side := m.1) (was := m.1) hN hF hB
  rw [k1] at hb2
  obtain ⟨k6, k7⟩ := k5 rfl
  exact ⟨t, M', _, r', hk _ hb2, k6, k3, k7⟩
/-- a game that is over -/
theorem roll_over {d : kDk} {r : kF} {M R Fm : Nat} {T S : Nat → Nat} (hN : SD M R Fm T S d r) (hF : Fm = 10) {b : Nat} {D : Int32} (hb : b ≤ 40) (hD : -2 ≤ D ∧ D ≤ 2) : bk_rolls d (nI b) D 30 0 = some (-9999003, d) := by
  have hsp : fn_X7_isSpeed 30 = some 1 := by decide +kernel
  have hov : fn_X4_isOver d.1.2.2.2.2.2.2.2.2.2.1 = some 1 := by
    rw [hN.2.2.2.1.2.1, isOver_c (by omega), if_pos hF]
  unfold bk_rolls fn_L_rolls fn_X7_roll
  rw [ball_k hb hD, kbs, if_neg n10, hsp, kbs, if_neg n10, hov, kbs, if_neg n10, kbs, if_neg (show ¬ (2 : Int32) = 0 by decide), if_neg (show ¬ (2 : Int32) = 1 by decide), if_pos rfl, kbs]
section TL
variable {L : Nat} {xs : Nat → Int32} {q34 : kDk → kDk → Int32 → Int32 → Int32 → Option (Int32 × kDk × kDk)} {x3 x5 : Int32} {M R Fm : Nat} {T S : Nat → Nat}
theorem t_457 {d1 z1 : kDk} {r' : kF} {M' R' Fm' : Nat} {T' S' : Nat → Nat} (h1 : SD M' R' Fm' T' S' d1 r') {x12 x13 x14 x15 : Int32} {A : Nat} (hA : A < 1024) (hFm : Fm < 10) (hmid : Fm' = Fm → Fm < 9 → ∀ k, k < 10 → A.testBit k = true → dLe d1 k = 4) : ∀ (e k q : Nat), k + e = 10 → e < q →
    fn_L_law_457 L xs q34 q d1 z1 x3 1 x5 (nI A) x12 x13 x14 x15 (nI Fm) (nI k) = fn_L_law_537 L xs q34 d1 z1 x3 1 x5 x12 x13 x14 x15 := by
  have hF' := h1.2.2.1.1
  intro e
  induction e with
  | zero =>
    intro k q hk hq
    obtain ⟨q, rfl⟩ : ∃ z, q = z + 1 := ⟨q - 1, by omega⟩
    have hk : k = 10 := by omega
    subst hk
    show (if (10 : Int32) ≤ nI 10 then _ else _) = _
    rw [if_pos (show (10 : Int32) ≤ nI 10 from Int32.le_refl _)]
  | succ e ih =>
    intro k q hk hq
    obtain ⟨q, rfl⟩ : ∃ z, q = z + 1 := ⟨q - 1, by omega⟩
    have hk10 : k < 10 := by omega
    have fin : fn_L_law_524 L xs q34 (fn_L_law_457 L xs q34 q) d1 z1 x3 x5 (nI A) x12 x13 x14 x15 (nI Fm) (nI k) = fn_L_law_537 L xs q34 d1 z1 x3 1 x5 x12 x13 x14 x15 := by
      unfold fn_L_law_524 fn_L_law_529
      rw [nI_1]
      exact ih (k + 1) q (by omega) (by omega)
    have e493 : fn_L_law_493 L xs q34 (fn_L_law_457 L xs q34 q) d1 z1 x3 x5 (nI A) x12 x13 x14 x15 (nI Fm) (nI k) = fn_L_law_537 L xs q34 d1 z1 x3 1 x5 x12 x13 x14 x15 := by
      unfold fn_L_law_493 fn_L_law_494
      rw [if_pos rfl]
      exact fin
    show (if (10 : Int32) ≤ nI k then _ else _) = _
    rw [if_neg (show ¬ (10 : Int32) ≤ nI k from ix_ge (n := 10) hk10 (by omega)), if_neg (show ¬ (1 : Int32) = 0 by decide)]
    refine (rgo (q_about h1 (w := 0) (by omega))).trans ?_
    by_cases c : Fm' = Fm
    · refine (if_pos (show nI Fm' = nI Fm by rw [c])).trans ?_
      by_cases c9 : Fm < 9
      · refine (if_neg (show ¬ (9 : Int32) ≤ nI Fm from nI_ge (b := 9) c9 (by omega))).trans ?_
        unfold fn_L_law_494
        rw [if_neg (show ¬ (1 : Int32) = 0 by decide), n_bit hA hk10]
        cases eA : A.testBit k with
        | false =>
          refine (if_pos (show nI (if false = true then 1 else 0) = (0 : Int32) by decide)).trans ?_
          exact fin
        | true =>
          refine (if_neg (show ¬ nI (if true = true then 1 else 0) = (0 : Int32) by decide)).trans ?_
          refine (rgo (q_pin h1 hk10 (w := 0) (by omega))).trans ?_
          refine (if_pos (show dLe d1 k = 4 from hmid c c9 k hk10 eA)).trans ?_
          exact fin
      · refine (if_pos (show (9 : Int32) ≤ nI Fm from nI_le (a := 9) (by omega) (by omega))).trans ?_
        exact e493
    · refine (if_neg (show ¬ nI Fm' = nI Fm from ne_n (by omega) (by omega) c)).trans ?_
      exact e493
set_option maxHeartbeats 1000000 in
theorem t_370 {d z : kDk} {m : kMd} (h : DI d m) (hz : DI z m) (hN : SD M R Fm T S d m.1) (hF : Fm < 10) {b a : Nat} {D : Int32} {lb : kF} (hB : BALL (dLe d) (dSh d) (nI b) D lb) (hb : b ≤ 40) (hD : -2 ≤ D ∧ D ≤ 2) (a1 : 1 ≤ a) (a30 : a ≤ 30) (hst : (90 : Int32) / nI a ≤ dSe d 0) :
    ∃ (d' z' : kDk) (m' : kMd), DI d' m' ∧ DI z' m' ∧ fn_L_law_370 L xs q34 d z x3 x5 D (nI b) (nI (npop (M &&& nmore lb (dSe d 1)) 10)) (nI (nmask (P5 lb (dLe d)) 10)) (nI (npop M 10)) (nI R) (dSe d 0) (nI (npts R Fm T S 10)) (nI Fm) (nI a) = q34 d' z' x3 1 (x5 + 1) := by
  have hI : SInv R Fm T S := hN.2.2.1
  have hR := R_le20 hI hF
  have hM10 := npop_le (M &&& nmore lb (dSe d 1)) 10
  obtain ⟨s', diary', hs', hru⟩ := roll_undo h hN hF hb hD a1 a30
  obtain ⟨t, M', d1, r', e1, et, hN1, hmid⟩ := roll_take h hN hF hB hb hD a1 a30 hst
  obtain ⟨d1', m1, ⟨av, f1, f2⟩, hd1, d2, f3, f4⟩ := hru d h
  obtain ⟨z1, m1', ⟨av', g1, g2⟩, hz1, z2, g3, g4⟩ := hru z hz
  rw [e1] at f1
  have ef := Option.some.inj f1
  have ef1 : nI t = av := congrArg Prod.fst ef
  have ef2 : d1 = d1' := congrArg Prod.snd ef
  subst ef1 ef2
  rw [f2] at g2
  have eg := Option.some.inj g2
  have eg1 : nI t = av' := congrArg Prod.fst eg
  subst eg1
  have hpa := pts_add hI hF (t := t)
  have hpl := npts_le hN1.2.2.1 10
  refine ⟨d2, z2, _, f4, g4, ?_⟩
  rw [← et]
  obtain ⟨M2, R2, Fm2, T2, S2, hN2', -⟩ := f4.gd
  have hN2 : SD M R Fm T S d2 m.1 := SRel.same hN hN2'
  have hse : dSe d2 0 = dSe d 0 := hN.se_eq hN2 (by omega)
  unfold fn_L_law_370
  refine (rgo e1).trans ?_
  refine (if_pos rfl).trans ?_
  refine (rgo g1).trans ?_
  refine (if_pos rfl).trans ?_
  have qt := q_taken hN1 (i := R) (by omega)
  rw [if_pos (show R < R + 1 by omega), tup_new] at qt
  refine (rgo qt).trans ?_
  refine (if_pos rfl).trans ?_
  refine (rgo (q_about hN1 (w := 2) (by omega))).trans ?_
  refine (if_pos (show nI (R + 1) = nI R + 1 from (nI_1 R).symm)).trans ?_
  refine (rgo (q_about hN1 (w := 3) (by omega))).trans ?_
  refine (if_neg (show ¬ nI (npts (R + 1) (nF R Fm t T S) (tup T R t) (nS R Fm t T S) 10) < nI (npts R Fm T S 10) + nI t by rw [nI_add]; exact nI_nlt hpa (by omega))).trans ?_
  unfold fn_L_law_452
  refine (t_457 hN1 (nmask_lt _ 10) hF (fun c c9 k hk hb2 => ?_) 10 0 12 (by omega) (by omega)).trans ?_
  · have hd : ¬ ndone R Fm t T S = true := by
      intro z
      unfold nF at c
      rw [if_pos z] at c
      omega
    have hk2 : nkind R Fm t T S = 2 := by
      unfold nkind
      rw [if_neg hd, if_pos c9]
    rw [nmask_bit] at hb2
    have h4 : lb k = 4 := by
      unfold P5 at hb2
      by_cases z : lb k = 4
      · exact z
      · simp [z] at hb2
    exact hmid hk2 k hk h4
  unfold fn_L_law_537
  rw [if_neg (show ¬ (1 : Int32) = 0 by decide)]
  refine (rgo f3).trans ?_
  refine (congrArg (fun z : Option Int32 => z.bind _) (thrown_n (v := s') (by omega))).trans ?_
  refine (kbs _ _).trans ?_
  refine (if_pos rfl).trans ?_
  refine (rgo g3).trans ?_
  refine (congrArg (fun z : Option Int32 => z.bind _) (thrown_n (v := s') (by omega))).trans ?_
  refine (kbs _ _).trans ?_
  refine (if_pos rfl).trans ?_
  refine (rgo (q_about hN2 (w := 7) (by omega))).trans ?_
  refine (if_pos rfl).trans ?_
  refine (rgo (q_about hN2 (w := 2) (by omega))).trans ?_
  refine (if_pos rfl).trans ?_
  refine (rgo (q_about hN2 (w := 3) (by omega))).trans ?_
  refine (if_pos rfl).trans ?_
  refine (rgo (q_setting (d := d2) (i := 0) (by omega))).trans ?_
  refine (if_pos hse).trans ?_
  rfl
set_option maxHeartbeats 1000000 in
theorem t_197 {d z : kDk} {m : kMd} (h : DI d m) (hz : DI z m) {b : Nat} {D : Int32} (hb : b ≤ 40) (hD : -2 ≤ D ∧ D ≤ 2) :
    ∃ (d' z' : kDk) (m' : kMd), DI d' m' ∧ DI z' m' ∧ fn_L_law_197 L xs q34 d z x3 1 x5 D (nI b) = q34 d' z' x3 1 (x5 + 1) := by
  obtain ⟨M, R, Fm, T, S, hN, -⟩ := h.gd
  have hF := hN.2.2.1.1
  obtain ⟨lb, hB⟩ := ball_ex hN.2.1.2.1 (nI b) D
  obtain ⟨t1, e1⟩ := q_would hN (w := 2) hB hb hD (by omega)
  obtain ⟨t2, e2⟩ := q_would (d := dT d t1) (w := 0) hN hB hb hD (by omega)
  obtain ⟨a, e3, a1, a30, a2, a3⟩ := q_slow (d := dT d t2) hN
  have h2 : DI (dT d t2) m := h
  have hN2 : SD M R Fm T S (dT d t2) m.1 := hN
  have pre : ∀ X : Option (Int32 × kDk × kDk), (if (1 : Int32) = 0 then fn_L_law_636 L xs q34 (dT d t2) z x3 1 x5 D (nI b) (nI (npts R Fm T S 10)) else (fn_L_call (dT d t2) 2 9 0 0).bind fun o294 => if o294.1 = 0 then if nI a = (1 : Int32) then fn_L_law_370 L xs q34 o294.2 z x3 x5 D (nI b) (nI (npop (M &&& nmore lb (dSe d 1)) 10)) (nI (nmask (P5 lb (dLe d)) 10)) (nI (npop M 10)) (nI R) (dSe d 0) (nI (npts R Fm T S 10)) (nI Fm) (nI a) else (bk_rolls o294.2 (nI b) D (nI a - (1 : Int32)) (0 : Int32)).bind fun o316 => if o316.1 = (-1 : Int32) then (bk_rolls z (nI b) D (nI a - (1 : Int32)) (0 : Int32)).bind fun o333 => if o333.1 = (-1 : Int32) then (fn_L_call o316.2 (9 : Int32) (0 : Int32) (0 : Int32) (0 : Int32)).bind fun o346 => (fn_L_thrown o346.1).bind fun o349 => if o349 = 0 then (fn_L_call o333.2 (9 : Int32) (0 : Int32) (0 : Int32) (0 : Int32)).bind fun o361 => (fn_L_thrown o361.1).bind fun o364 => if o364 = 0 then fn_L_law_370 L xs q34 o346.2 o361.2 x3 x5 D (nI b) (nI (npop (M &&& nmore lb (dSe d 1)) 10)) (nI (nmask (P5 lb (dLe d)) 10)) (nI (npop M 10)) (nI R) (dSe d 0) (nI (npts R Fm T S 10)) (nI Fm) (nI a) else fn_L_law_451 L xs q34 o346.2 o361.2 x3 x5 (nI (nmask (P5 lb (dLe d)) 10)) (nI (npop M 10)) (nI R) (dSe d 0) (nI (npts R Fm T S 10)) (nI Fm) else fn_L_law_451 L xs q34 o346.2 o333.2 x3 x5 (nI (nmask (P5 lb (dLe d)) 10)) (nI (npop M 10)) (nI R) (dSe d 0) (nI (npts R Fm T S 10)) (nI Fm) else fn_L_law_451 L xs q34 o316.2 o333.2 x3 x5 (nI (nmask (P5 lb (dLe d)) 10)) (nI (npop M 10)) (nI R) (dSe d 0) (nI (npts R Fm T S 10)) (nI Fm) else fn_L_law_451 L xs q34 o316.2 z x3 x5 (nI (nmask (P5 lb (dLe d)) 10)) (nI (npop M 10)) (nI R) (dSe d 0) (nI (npts R Fm T S 10)) (nI Fm) else fn_L_law_636 L xs q34 o294.2 z x3 1 x5 D (nI b) (nI (npts R Fm T S 10))) = X → fn_L_law_197 L xs q34 d z x3 1 x5 D (nI b) = X := by
    intro X hX
    unfold fn_L_law_197
    refine (rgo e1).trans ?_
    refine (rgo e2).trans ?_
    refine (rgo (q_about hN2 (w := 7) (by omega))).trans ?_
    refine (rgo (q_about hN2 (w := 2) (by omega))).trans ?_
    refine (rgo (q_setting (d := dT d t2) (i := 0) (by omega))).trans ?_
    refine (rgo (q_about hN2 (w := 3) (by omega))).trans ?_
    refine (rgo (q_about hN2 (w := 0) (by omega))).trans ?_
    refine (rgo e3).trans ?_
    exact hX
  by_cases c : Fm = 10
  · obtain ⟨g, t3, e4, -, -, g3⟩ := q_goes (d := dT d t2) hN2 hb hD
    refine ⟨dT d t3, z, m, h, hz, pre _ ?_⟩
    refine (if_neg (show ¬ (1 : Int32) = 0 by decide)).trans ?_
    refine (rgo (q_about hN2 (w := 9) (by omega))).trans ?_
    refine (if_neg (show ¬ nI (if Fm = 10 then 1 else 0) = (0 : Int32) by rw [if_pos c]; decide)).trans ?_
    unfold fn_L_law_636
    refine (if_neg (show ¬ (1 : Int32) = 0 by decide)).trans ?_
    refine (rgo (roll_over hN2 c hb hD)).trans ?_
    refine (if_pos rfl).trans ?_
    refine (rgo e4).trans ?_
    refine (if_pos (show nI g = nI (npts R Fm T S 10) by rw [g3 c])).trans ?_
    rfl
  · have hF10 : Fm < 10 := by omega
    by_cases ca : a = 1
    · obtain ⟨d', z', m', r1, r2, r3⟩ := t_370 (L := L) (xs := xs) (q34 := q34) (x3 := x3) (x5 := x5) h2 hz hN2 hF10 hB hb hD a1 a30 a2
      refine ⟨d', z', m', r1, r2, pre _ ?_⟩
      refine (if_neg (show ¬ (1 : Int32) = 0 by decide)).trans ?_
      refine (rgo (q_about hN2 (w := 9) (by omega))).trans ?_
      refine (if_pos (show nI (if Fm = 10 then 1 else 0) = (0 : Int32) by rw [if_neg c]; rfl)).trans ?_
      refine (if_pos (show nI a = (1 : Int32) by rw [ca]; rfl)).trans ?_
      exact r3
    · have hst := a3.resolve_left ca
      obtain ⟨s', diary', hs', hru⟩ := roll_undo h2 hN2 hF10 hb hD (show 1 ≤ a - 1 by omega) (show a - 1 ≤ 30 by omega)
      obtain ⟨d1, e5⟩ := roll_stop h2 hN2 hF10 hb hD (show 1 ≤ a - 1 by omega) (show a - 1 ≤ 30 by omega) hst
      obtain ⟨d1', m1, ⟨av, f1, f2⟩, -, d2, f3, f4⟩ := hru _ h2
      obtain ⟨z1, m1', ⟨av', g1, g2⟩, -, z2, g3, g4⟩ := hru z hz
      rw [e5] at f1
      have ef := Option.some.inj f1
      have ef1 : (-1 : Int32) = av := congrArg Prod.fst ef
      have ef2 : d1 = d1' := congrArg Prod.snd ef
      subst ef1 ef2
      rw [f2] at g2
      have eg := Option.some.inj g2
      have eg1 : (-1 : Int32) = av' := congrArg Prod.fst eg
      subst eg1
      obtain ⟨M2, R2, Fm2, T2, S2, hN3', -⟩ := f4.gd
      have hN3 : SD M R Fm T S d2 m.1 := SRel.same hN2 hN3'
      have hse : ∀ k, k < 3 → dSe d2 k = dSe d k := fun k hk => hN2.se_eq hN3 hk
      have hle : ∀ k, k < 10 → dLe d2 k = dLe d k ∧ dSh d2 k = dSh d k := fun k hk => hN2.le_eq hN3 hk
      have hP5 : nmask (P5 lb (dLe d2)) 10 = nmask (P5 lb (dLe d)) 10 := nmask_congr fun k hk => by unfold P5; rw [(hle k hk).1]
      obtain ⟨d', z', m', r1, r2, r3⟩ := t_370 (L := L) (xs := xs) (q34 := q34) (x3 := x3) (x5 := x5) f4 g4 hN3 hF10 (hB.congr hle) hb hD a1 a30 (by rw [hse 0 (by omega)]; exact a2)
      rw [hse 0 (by omega), hse 1 (by omega), hP5] at r3
      have ea : nI a - (1 : Int32) = nI (a - 1) := pk_sub (b := 1) a1
      refine ⟨d', z', m', r1, r2, pre _ ?_⟩
      refine (if_neg (show ¬ (1 : Int32) = 0 by decide)).trans ?_
      refine (rgo (q_about hN2 (w := 9) (by omega))).trans ?_
      refine (if_pos (show nI (if Fm = 10 then 1 else 0) = (0 : Int32) by rw [if_neg c]; rfl)).trans ?_
      refine (if_neg (show ¬ nI a = (1 : Int32) from fun z => ca ((nI_eq1 (by omega)).mp z))).trans ?_
      rw [ea]
      refine (rgo e5).trans ?_
      refine (if_pos rfl).trans ?_
      refine (rgo g1).trans ?_
      refine (if_pos rfl).trans ?_
      refine (rgo f3).trans ?_
      refine (congrArg (fun z : Option Int32 => z.bind _) (thrown_n (v := s') (by omega))).trans ?_
      refine (kbs _ _).trans ?_
      refine (if_pos rfl).trans ?_
      refine (rgo g3).trans ?_
      refine (congrArg (fun z : Option Int32 => z.bind _) (thrown_n (v := s') (by omega))).trans ?_
      refine (kbs _ _).trans ?_
      refine (if_pos rfl).trans ?_
      exact r3
theorem t_150 {d z : kDk} {m : kMd} (h : DI d m) (hz : DI z m) {X : Nat} (hX : X < 2 ^ 31) :
    ∃ (d' z' : kDk) (m' : kMd), DI d' m' ∧ DI z' m' ∧ fn_L_law_150 L xs q34 d z x3 x5 (nI X) 1 = q34 d' z' x3 1 (x5 + 1) := by
  obtain ⟨M, R, Fm, T, S, hN, -⟩ := h.gd
  have d7 : nI X / 7 = nI (X / 7) := kdiv_n (c := 7) hX (by omega) (by omega)
  have k5 : krem (nI (X / 7)) 5 = nI (X / 7 % 5) := krem_n (c := 5) (by omega) (by omega) (by omega)
  have d35 : nI X / 35 = nI (X / 35) := kdiv_n (c := 35) hX (by omega) (by omega)
  have k25 : krem (nI (X / 35)) 25 = nI (X / 35 % 25) := krem_n (c := 25) (by omega) (by omega) (by omega)
  have l25 : X / 35 % 25 < 25 := Nat.mod_lt _ (by omega)
  have hD : -2 ≤ nI (X / 7 % 5) - 2 ∧ nI (X / 7 % 5) - 2 ≤ 2 := d5 (Nat.mod_lt _ (by omega))
  unfold fn_L_law_150
  rw [d7, k5, d35, k25, show (8 : Int32) + nI (X / 35 % 25) = nI (8 + X / 35 % 25) from nI_add 8 _]
  by_cases c : krem (nI X / 9) 4 = 0
  · obtain ⟨b, t, t', hb, e1, -⟩ := best_two hN hN hD
    obtain ⟨d', z', m', r1, r2, r3⟩ := t_197 (L := L) (xs := xs) (q34 := q34) (x3 := x3) (x5 := x5) (h.t t) hz hb hD
    refine ⟨d', z', m', r1, r2, ?_⟩
    rw [if_pos c]
    refine (rgo e1).trans ?_
    exact r3
  · obtain ⟨d', z', m', r1, r2, r3⟩ := t_197 (L := L) (xs := xs) (q34 := q34) (x3 := x3) (x5 := x5) h hz (b := 8 + X / 35 % 25) (by omega) hD
    refine ⟨d', z', m', r1, r2, ?_⟩
    rw [if_neg c]
    exact r3
end TL
