/-! what is done: a deck and a row of the reference's words, alike -/
abbrev kMd : Type := kF × kF × kF × kF × Int32
def DI (d : kDk) (m : kMd) : Prop := KR2 d.1 m.1 ∧ HR2 d.2.2.2.2.1 d.2.2.2.2.2.1 m.2.2.2.2 d.2.2.2.2.2.2.2.1 m.2.1 ∧ GR2 d.2.2.2.2.2.2.1 m.2.2.2.1 m.2.2.1 d.2.2.2.2.2.2.2.2
theorem DI.t {d : kDk} {m : kMd} (h : DI d m) (t : kSt) : DI (dT d t) m := h
def m_touch (m : kMd) (k v : Int32) : Option (Int32 × kMd) := (fn_X8_touch 0 m.2.2.2.2 m.1 m.2.1 k v).bind fun o => some ((if o.2.1 = 0 then o.1 else (if o.2.1 = 1 then (-9999001 : Int32) else (if o.2.1 = 2 then (-9999002 : Int32) else (-9999003 : Int32)))), (o.2.2.2.1, o.2.2.2.2, m.2.2.1, m.2.2.2.1, o.2.2.1))
theorem act_touch {d : kDk} {m : kMd} (h : DI d m) (k v : Int32) : ∃ (a : Int32) (d' : kDk) (m' : kMd), bk_tryTouch d k v = some (a, d') ∧ m_touch m k v = some (a, m') ∧ DI d' m' := by
  obtain ⟨hN, hH, hG⟩ := h
  obtain ⟨a, hsz', hnx', macts', le', now', diary', hs', hd⟩ := sim_touchA_2 (ref := 0) (x1 := k) (x2 := v) hH hN
  unfold bk_tryTouch fn_L_tryTouch m_touch
  rcases hd with ⟨h1, h2⟩ | ⟨h1, h2⟩ | ⟨h1, h2⟩ | ⟨h1, h2, hH', hN'⟩
  · rw [h1, kbs, if_neg (show ¬ (3 : Int32) = 0 by decide), if_pos rfl, kbs, h2, kbs]
    rw [if_neg (show ¬ (1 : Int32) = 0 by decide), if_pos rfl]
    exact ⟨_, _, _, rfl, rfl, ⟨hN, hH, hG⟩⟩
  · rw [h1, kbs, if_neg (show ¬ (1 : Int32) = 0 by decide), if_neg (show ¬ (1 : Int32) = 3 by decide), if_pos rfl, kbs, h2, kbs]
    rw [if_neg (show ¬ (2 : Int32) = 0 by decide), if_neg (show ¬ (2 : Int32) = 1 by decide), if_pos rfl]
    exact ⟨_, _, _, rfl, rfl, ⟨hN, hH, hG⟩⟩
  · rw [h1, kbs, if_neg (show ¬ (2 : Int32) = 0 by decide), if_neg (show ¬ (2 : Int32) = 3 by decide), if_neg (show ¬ (2 : Int32) = 1 by decide), if_pos rfl, kbs, h2, kbs]
    rw [if_neg (show ¬ (3 : Int32) = 0 by decide), if_neg (show ¬ (3 : Int32) = 1 by decide), if_neg (show ¬ (3 : Int32) = 2 by decide)]
    exact ⟨_, _, _, rfl, rfl, ⟨hN, hH, hG⟩⟩
  · rw [h1, kbs, if_pos rfl, kbs, h2, kbs]
    rw [if_pos rfl]
    exact ⟨_, _, _, rfl, rfl, ⟨hN', hH', hG⟩⟩
def m_roll (m : kMd) (b w s f : Int32) : Option (Int32 × kMd) := (fn_X8_roll 0 m.2.2.2.2 m.1 m.2.1 m.1 m.1 b w s f).bind fun o => some ((if o.2.1 = 0 then o.1 else (if o.2.1 = 1 then (-9999002 : Int32) else (-9999003 : Int32))), (o.2.2.2.1, o.2.2.2.2.1, m.2.2.1, m.2.2.2.1, o.2.2.1))
theorem act_roll {d : kDk} {m : kMd} (h : DI d m) (b w s f : Int32) : ∃ (a : Int32) (d' : kDk) (m' : kMd), bk_rolls d b w s f = some (a, d') ∧ m_roll m b w s f = some (a, m') ∧ DI d' m' := by
  obtain ⟨hN, hH, hG⟩ := h
  obtain ⟨a, sto', dro', fou', told', wl', wr', rolls', frm', hsz', hnx', macts', le', sh', tk', sr', now', diary', side', was', hs', hd⟩ := sim_rollA_2 (ref := 0) (x1 := b) (x2 := w) (x3 := s) (x4 := f) (wl := d.1.2.2.2.2.1) (wr := d.1.2.2.2.2.2.1) (side := m.1) (was := m.1) hH hN
  unfold bk_rolls fn_L_rolls m_roll
  rcases hd with ⟨h1, h2⟩ | ⟨h1, h2⟩ | ⟨h1, h2, hH', hN', hR'⟩
  · rw [h1, kbs, if_neg (show ¬ (1 : Int32) = 0 by decide), if_pos rfl, kbs, h2, kbs]
    rw [if_neg (show ¬ (1 : Int32) = 0 by decide), if_pos rfl]
    exact ⟨_, _, _, rfl, rfl, ⟨hN, hH, hG⟩⟩
  · rw [h1, kbs, if_neg (show ¬ (2 : Int32) = 0 by decide), if_neg (show ¬ (2 : Int32) = 1 by decide), if_pos rfl, kbs, h2, kbs]
    rw [if_neg (show ¬ (2 : Int32) = 0 by decide), if_neg (show ¬ (2 : Int32) = 1 by decide)]
    exact ⟨_, _, _, rfl, rfl, ⟨hN, hH, hG⟩⟩
  · rw [h1, kbs, if_pos rfl, kbs, h2, kbs]
    rw [if_pos rfl]
    exact ⟨_, _, _, rfl, rfl, ⟨hN', hH', hG⟩⟩
def m_set (m : kMd) (k v : Int32) : Option (Int32 × kMd) := (fn_X8_set 0 m.2.2.2.2 m.1 m.2.1 k v).bind fun o => some ((if o.2.1 = 0 then o.1 else (-9999002 : Int32)), (o.2.2.2.1, o.2.2.2.2, m.2.2.1, m.2.2.2.1, o.2.2.1))
theorem act_set {d : kDk} {m : kMd} (h : DI d m) (k v : Int32) : ∃ (a : Int32) (d' : kDk) (m' : kMd), bk_tryLay d k v = some (a, d') ∧ m_set m k v = some (a, m') ∧ DI d' m' := by
  obtain ⟨hN, hH, hG⟩ := h
  obtain ⟨a, hsz', hnx', macts', se', now', diary', hs', hd⟩ := sim_setA_2 (ref := 0) (x1 := k) (x2 := v) hH hN
  unfold bk_tryLay fn_L_tryLay m_set
  rcases hd with ⟨h1, h2⟩ | ⟨h1, h2, hH', hN'⟩
  · rw [h1, kbs, if_neg (show ¬ (1 : Int32) = 0 by decide), if_pos rfl, kbs, h2, kbs]
    rw [if_neg (show ¬ (1 : Int32) = 0 by decide)]
    exact ⟨_, _, _, rfl, rfl, ⟨hN, hH, hG⟩⟩
  · rw [h1, kbs, if_pos rfl, kbs, h2, kbs]
    rw [if_pos rfl]
    exact ⟨_, _, _, rfl, rfl, ⟨hN', hH', hG⟩⟩
def m_undo (m : kMd)  : Option (Int32 × kMd) := (fn_X8_undo 0 m.2.2.2.2 m.1 m.2.1).bind fun o => some ((if o.2.1 = 0 then o.1 else (-9999003 : Int32)), (o.2.2.2, m.2.1, m.2.2.1, m.2.2.2.1, o.2.2.1))
theorem act_undo {d : kDk} {m : kMd} (h : DI d m)  : ∃ (a : Int32) (d' : kDk) (m' : kMd), bk_tryUndo d  = some (a, d') ∧ m_undo m  = some (a, m') ∧ DI d' m' := by
  obtain ⟨hN, hH, hG⟩ := h
  obtain ⟨a, sto', dro', fou', told', rolls', frm', hsz', hnx', macts', le', sh', tk', sr', se', now', hd⟩ := sim_undo_2 (ref := 0) hH hN
  unfold bk_tryUndo fn_L_tryUndo m_undo
  rcases hd with ⟨h1, h2⟩ | ⟨h1, h2, hH', hN'⟩
  · rw [h1, kbs, if_neg (show ¬ (2 : Int32) = 0 by decide), if_pos rfl, kbs, h2, kbs]
    rw [if_neg (show ¬ (1 : Int32) = 0 by decide)]
    exact ⟨_, _, _, rfl, rfl, ⟨hN, hH, hG⟩⟩
  · rw [h1, kbs, if_pos rfl, kbs, h2, kbs]
    rw [if_pos rfl]
    exact ⟨_, _, _, rfl, rfl, ⟨hN', hH', hG⟩⟩
def m_save (m : kMd) (k : Int32) : Option (Int32 × kMd) := (fn_X8_save 0 m.1 m.2.2.1 m.2.2.2.1 k).bind fun o => some ((if o.2.1 = 0 then o.1 else (-9999001 : Int32)), (m.1, m.2.1, o.2.2.1, o.2.2.2, m.2.2.2.2))
theorem act_save {d : kDk} {m : kMd} (h : DI d m) (k : Int32) : ∃ (a : Int32) (d' : kDk) (m' : kMd), bk_tryKeep d k = some (a, d') ∧ m_save m k = some (a, m') ∧ DI d' m' := by
  obtain ⟨hN, hH, hG⟩ := h
  obtain ⟨a, lk', isk', kept', gs', hd⟩ := sim_save_2 (ref := 0) (x1 := k) hG hN
  unfold bk_tryKeep fn_L_tryKeep m_save
  rcases hd with ⟨h1, h2⟩ | ⟨h1, h2, hG'⟩
  · rw [h1, kbs, if_neg (show ¬ (3 : Int32) = 0 by decide), if_pos rfl, kbs, h2, kbs]
    rw [if_neg (show ¬ (1 : Int32) = 0 by decide)]
    exact ⟨_, _, _, rfl, rfl, ⟨hN, hH, hG⟩⟩
  · rw [h1, kbs, if_pos rfl, kbs, h2, kbs]
    rw [if_pos rfl]
    exact ⟨_, _, _, rfl, rfl, ⟨hN, hH, hG'⟩⟩
def m_back (m : kMd) (k : Int32) : Option (Int32 × kMd) := (fn_X8_restore 0 m.2.2.2.2 m.1 m.2.2.1 m.2.2.2.1 k).bind fun o => some ((if o.2.1 = 0 then o.1 else (if o.2.1 = 1 then (-9999001 : Int32) else (-9999003 : Int32))), (o.2.2.2, m.2.1, m.2.2.1, m.2.2.2.1, o.2.2.1))
theorem act_back {d : kDk} {m : kMd} (h : DI d m) (k : Int32) : ∃ (a : Int32) (d' : kDk) (m' : kMd), bk_tryBack d k = some (a, d') ∧ m_back m k = some (a, m') ∧ DI d' m' := by
  obtain ⟨hN, hH, hG⟩ := h
  obtain ⟨a, sto', dro', fou', told', rolls', frm', le', sh', tk', sr', se', now', hd⟩ := sim_restore_2 (ref := 0) (x1 := k) (hsz := d.2.2.2.2.1) (macts := m.2.2.2.2) (sto := d.1.1) (dro := d.1.2.1) (fou := d.1.2.2.1) (told := d.1.2.2.2.1) (rolls := d.1.2.2.2.2.2.2.2.2.1) (frm := d.1.2.2.2.2.2.2.2.2.2.1) (le := d.1.2.2.2.2.2.2.1) (sh := d.1.2.2.2.2.2.2.2.1) (tk := d.1.2.2.2.2.2.2.2.2.2.2.1) (sr := d.1.2.2.2.2.2.2.2.2.2.2.2.1) (se := d.1.2.2.2.2.2.2.2.2.2.2.2.2) (now := m.1) hG
  unfold bk_tryBack fn_L_tryBack m_back
  rcases hd with ⟨h1, h2⟩ | ⟨h1, h2⟩ | ⟨h1, h2, hN'⟩
  · rw [h1, kbs, if_neg (show ¬ (3 : Int32) = 0 by decide), if_pos rfl, kbs, h2, kbs]
    rw [if_neg (show ¬ (1 : Int32) = 0 by decide), if_pos rfl]
    exact ⟨_, _, _, rfl, rfl, ⟨hN, hH, hG⟩⟩
  · rw [h1, kbs, if_neg (show ¬ (2 : Int32) = 0 by decide), if_neg (show ¬ (2 : Int32) = 3 by decide), if_pos rfl, kbs, h2, kbs]
    rw [if_neg (show ¬ (2 : Int32) = 0 by decide), if_neg (show ¬ (2 : Int32) = 1 by decide)]
    exact ⟨_, _, _, rfl, rfl, ⟨hN, hH, hG⟩⟩
  · rw [h1, kbs, if_pos rfl, kbs, h2, kbs]
    rw [if_pos rfl]
    exact ⟨_, _, _, rfl, rfl, ⟨hN', hH.forget, hG⟩⟩
def m_begin (m : kMd) : Option (Int32 × kMd) := (fn_X8_begin 0 m.2.2.2.2 m.1 m.2.1).bind fun o => some (o.1, (o.2.2.2.1, o.2.2.2.2, m.2.2.1, m.2.2.2.1, o.2.2.1))
theorem act_begin {d : kDk} {m : kMd} (h : DI d m) : ∃ (a : Int32) (d' : kDk) (m' : kMd), bk_begin d = some (a, d') ∧ m_begin m = some (a, m') ∧ DI d' m' := by
  obtain ⟨hN, hH, hG⟩ := h
  obtain ⟨a, told', rolls', frm', hsz', hnx', macts', le', sh', now', diary', hs', h1, h2, hH', hN'⟩ := sim_beginA_2 (ref := 0) hH hN
  unfold bk_begin m_begin
  rw [h1, kbs, h2, kbs]
  exact ⟨_, _, _, rfl, rfl, ⟨hN', hH', hG⟩⟩
/-- what a deck's row says of rolls and frame -/
theorem DI.rolls {d : kDk} {m : kMd} (h : DI d m) : fn_L_call d 2 2 0 0 = some (m.1 51, d) := by
  obtain ⟨⟨M, R, Fm, T, S, hN, -⟩, -⟩ := h
  rw [call_2]
  unfold bk_tryAbout fn_L_tryAbout
  rw [show (2 : Int32) = nI 2 from rfl, ask_about hN (w := 2) (by omega), kbs, if_pos rfl, kbs, hN.2.2.2.2.1.1]
  rfl
theorem DI.over {d : kDk} {m : kMd} (h : DI d m) : fn_L_call d 2 9 0 0 = some ((if m.1 52 = 10 then 1 else 0), d) := by
  obtain ⟨⟨M, R, Fm, T, S, hN, -⟩, -⟩ := h
  rw [call_2]
  unfold bk_tryAbout fn_L_tryAbout
  rw [show (9 : Int32) = nI 9 from rfl, ask_about hN (w := 9) (by omega), kbs, if_pos rfl, kbs, hN.2.2.2.2.1.2.1]
  have hF := hN.2.2.1.1
  show some (nI (if Fm = 10 then 1 else 0), d) = _
  by_cases c : Fm = 10
  · subst c
    rfl
  · rw [if_neg c, if_neg (show ¬ nI Fm = (10 : Int32) from fun e => c ((nI_eq10 (by omega)).mp e))]
    rfl
/-- the law's act on a row -/
def m_act (m : kMd) (x : Int32) : Option (Int32 × kMd) :=
  if krem x 16 = 0 ∨ krem x 16 = 1 then m_touch m (krem (x / 16) 10) (krem (x / 160) 4)
  else if krem x 16 = 2 then m_set m (krem (x / 16) 3) (krem (x / 48) 25)
  else if krem x 16 = 3 then (if 2 ≤ m.1 51 then m_undo m else some (-1, m))
  else if krem x 16 = 4 then m_save m (krem (x / 16) 2)
  else if krem x 16 = 5 then m_back m (krem (x / 16) 2)
  else if krem x 16 = 6 then (if m.1 52 = 10 then m_begin m else some (-1, m))
  else m_roll m (8 + krem (x / 16) 25) (krem (x / 400) 5 - 2) (if krem (x / 7) 4 = 0 then 1 + krem (x / 2000) 30 else 30) (if krem (x / 11) 12 = 0 then 1 else 0)
theorem act_all {d : kDk} {m : kMd} (h : DI d m) (x : Int32) : ∃ (a : Int32) (d' : kDk) (m' : kMd), fn_L_act d x = some (a, d') ∧ m_act m x = some (a, m') ∧ DI d' m' := by
  unfold fn_L_act m_act
  by_cases c0 : krem x 16 = 0
  · rw [if_pos c0, if_pos (Or.inl c0), bind_eta, call_7]
    exact act_touch h _ _
  by_cases c1 : krem x 16 = 1
  · rw [if_neg c0, if_pos c1, if_pos (Or.inr c1), bind_eta, call_7]
    exact act_touch h _ _
  rw [if_neg c0, if_neg c1, if_neg (show ¬ (krem x 16 = 0 ∨ krem x 16 = 1) from fun z => z.elim c0 c1)]
  by_cases c2 : krem x 16 = 2
  · rw [if_pos c2, if_pos c2, bind_eta, call_8]
    exact act_set h _ _
  rw [if_neg c2, if_neg c2]
  by_cases c3 : krem x 16 = 3
  · rw [if_pos c3, if_pos c3, h.rolls, kbs]
    by_cases c : 2 ≤ m.1 51
    · obtain ⟨a, d', m', h1, h2, h3⟩ := act_undo h
      rw [if_pos c, if_pos c, call_9, h1, kbs, h2]
      exact ⟨_, _, _, rfl, rfl, h3⟩
    · rw [if_neg c, if_neg c]
      exact ⟨_, _, _, rfl, rfl, h⟩
  rw [if_neg c3, if_neg c3]
  by_cases c4 : krem x 16 = 4
  · rw [if_pos c4, if_pos c4, bind_eta, call_13]
    exact act_save h _
  rw [if_neg c4, if_neg c4]
  by_cases c5 : krem x 16 = 5
  · rw [if_pos c5, if_pos c5, bind_eta, call_14]
    exact act_back h _
  rw [if_neg c5, if_neg c5]
  by_cases c6 : krem x 16 = 6
  · rw [if_pos c6, if_pos c6, h.over, kbs]
    by_cases c : m.1 52 = 10
    · obtain ⟨a, d', m', h1, h2, h3⟩ := act_begin h
      rw [if_pos c, if_pos c, if_pos rfl, h1, kbs, h2]
      exact ⟨_, _, _, rfl, rfl, h3⟩
    · rw [if_neg c, if_neg c, if_neg (show ¬ ((0 : Int32) = 1) by decide)]
      exact ⟨_, _, _, rfl, rfl, h⟩
  rw [if_neg c6, if_neg c6]
  have key : ∀ s : Int32, ∃ (a : Int32) (d' : kDk) (m' : kMd), fn_L_act_213 d x (8 + krem (x / 16) 25) (krem (x / 400) 5 - 2) s = some (a, d') ∧ m_roll m (8 + krem (x / 16) 25) (krem (x / 400) 5 - 2) s (if krem (x / 11) 12 = 0 then 1 else 0) = some (a, m') ∧ DI d' m' := by
    intro s
    unfold fn_L_act_213 fn_L_act_228
    by_cases c : krem (x / 11) 12 = 0
    · rw [if_pos c, if_pos c, bind_eta]
      exact act_roll h _ _ _ _
    · rw [if_neg c, if_neg c, bind_eta]
      exact act_roll h _ _ _ _
  by_cases c7 : krem (x / 7) 4 = 0
  · rw [if_pos c7, if_pos c7]
    exact key _
  · rw [if_neg c7, if_neg c7]
    exact key _
/-- two decks that stand for one row do alike -/
theorem act_two {d z : kDk} {m : kMd} (h : DI d m) (hz : DI z m) (x : Int32) : ∃ (a : Int32) (d' z' : kDk) (m' : kMd), fn_L_act d x = some (a, d') ∧ fn_L_act z x = some (a, z') ∧ DI d' m' ∧ DI z' m' := by
  obtain ⟨a, d', m', h1, h2, h3⟩ := act_all h x
  obtain ⟨b, z', m2, g1, g2, g3⟩ := act_all hz x
  rw [h2] at g2
  have e := Option.some.inj g2
  have e1 : a = b := congrArg Prod.fst e
  have e2 : m' = m2 := congrArg Prod.snd e
  subst e1 e2
  exact ⟨a, d', z', m', h1, g1, h3, g3⟩
