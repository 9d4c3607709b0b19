/-! the law's calls; those that are refused -/
theorem bind_eta {α β : Type} (x : Option (α × β)) : (x.bind fun o => some (o.1, o.2)) = x := by cases x <;> rfl
theorem rstep {β : Type} {x : Option (Int32 × kDk)} {a v : Int32} {d : kDk} {F G : Int32 × kDk → Option β} (h : x = some (a, d)) (ha : a = v) : (x.bind fun o => if o.1 = v then F o else G o) = F (a, d) := by
  rw [h, kbs]
  exact if_pos ha
theorem rgo {β : Type} {x : Option (Int32 × kDk)} {a : Int32} {d : kDk} {F : Int32 × kDk → Option β} (h : x = some (a, d)) : x.bind F = F (a, d) := by
  rw [h, kbs]
theorem call_0 (d : kDk) (x y z : Int32) : fn_L_call d 0 x y z = bk_tryAppend d x := by
  unfold fn_L_call
  rw [if_pos rfl]
  exact bind_eta _
theorem call_1 (d : kDk) (x y z : Int32) : fn_L_call d 1 x y z = bk_tryLoad d  := by
  unfold fn_L_call
  rw [if_neg (show ¬ (1 : Int32) = 0 by decide), if_pos rfl]
  exact bind_eta _
theorem call_2 (d : kDk) (x y z : Int32) : fn_L_call d 2 x y z = bk_tryAbout d x := by
  unfold fn_L_call
  rw [if_neg (show ¬ (2 : Int32) = 0 by decide), if_neg (show ¬ (2 : Int32) = 1 by decide), if_pos rfl]
  exact bind_eta _
theorem call_3 (d : kDk) (x y z : Int32) : fn_L_call d 3 x y z = bk_tryPin d x y := by
  unfold fn_L_call
  rw [if_neg (show ¬ (3 : Int32) = 0 by decide), if_neg (show ¬ (3 : Int32) = 1 by decide), if_neg (show ¬ (3 : Int32) = 2 by decide), if_pos rfl]
  exact bind_eta _
theorem call_4 (d : kDk) (x y z : Int32) : fn_L_call d 4 x y z = bk_tryFrame d x y := by
  unfold fn_L_call
  rw [if_neg (show ¬ (4 : Int32) = 0 by decide), if_neg (show ¬ (4 : Int32) = 1 by decide), if_neg (show ¬ (4 : Int32) = 2 by decide), if_neg (show ¬ (4 : Int32) = 3 by decide), if_pos rfl]
  exact bind_eta _
theorem call_5 (d : kDk) (x y z : Int32) : fn_L_call d 5 x y z = bk_tryTaken d x := by
  unfold fn_L_call
  rw [if_neg (show ¬ (5 : Int32) = 0 by decide), if_neg (show ¬ (5 : Int32) = 1 by decide), if_neg (show ¬ (5 : Int32) = 2 by decide), if_neg (show ¬ (5 : Int32) = 3 by decide), if_neg (show ¬ (5 : Int32) = 4 by decide), if_pos rfl]
  exact bind_eta _
theorem call_6 (d : kDk) (x y z : Int32) : fn_L_call d 6 x y z = bk_trySetting d x := by
  unfold fn_L_call
  rw [if_neg (show ¬ (6 : Int32) = 0 by decide), if_neg (show ¬ (6 : Int32) = 1 by decide), if_neg (show ¬ (6 : Int32) = 2 by decide), if_neg (show ¬ (6 : Int32) = 3 by decide), if_neg (show ¬ (6 : Int32) = 4 by decide), if_neg (show ¬ (6 : Int32) = 5 by decide), if_pos rfl]
  exact bind_eta _
theorem call_7 (d : kDk) (x y z : Int32) : fn_L_call d 7 x y z = bk_tryTouch d x y := by
  unfold fn_L_call
  rw [if_neg (show ¬ (7 : Int32) = 0 by decide), if_neg (show ¬ (7 : Int32) = 1 by decide), if_neg (show ¬ (7 : Int32) = 2 by decide), if_neg (show ¬ (7 : Int32) = 3 by decide), if_neg (show ¬ (7 : Int32) = 4 by decide), if_neg (show ¬ (7 : Int32) = 5 by decide), if_neg (show ¬ (7 : Int32) = 6 by decide), if_pos rfl]
  exact bind_eta _
theorem call_8 (d : kDk) (x y z : Int32) : fn_L_call d 8 x y z = bk_tryLay d x y := by
  unfold fn_L_call
  rw [if_neg (show ¬ (8 : Int32) = 0 by decide), if_neg (show ¬ (8 : Int32) = 1 by decide), if_neg (show ¬ (8 : Int32) = 2 by decide), if_neg (show ¬ (8 : Int32) = 3 by decide), if_neg (show ¬ (8 : Int32) = 4 by decide), if_neg (show ¬ (8 : Int32) = 5 by decide), if_neg (show ¬ (8 : Int32) = 6 by decide), if_neg (show ¬ (8 : Int32) = 7 by decide), if_pos rfl]
  exact bind_eta _
theorem call_9 (d : kDk) (x y z : Int32) : fn_L_call d 9 x y z = bk_tryUndo d  := by
  unfold fn_L_call
  rw [if_neg (show ¬ (9 : Int32) = 0 by decide), if_neg (show ¬ (9 : Int32) = 1 by decide), if_neg (show ¬ (9 : Int32) = 2 by decide), if_neg (show ¬ (9 : Int32) = 3 by decide), if_neg (show ¬ (9 : Int32) = 4 by decide), if_neg (show ¬ (9 : Int32) = 5 by decide), if_neg (show ¬ (9 : Int32) = 6 by decide), if_neg (show ¬ (9 : Int32) = 7 by decide), if_neg (show ¬ (9 : Int32) = 8 by decide), if_pos rfl]
  exact bind_eta _
theorem call_10 (d : kDk) (x y z : Int32) : fn_L_call d 10 x y z = bk_tryWould d x y z := by
  unfold fn_L_call
  rw [if_neg (show ¬ (10 : Int32) = 0 by decide), if_neg (show ¬ (10 : Int32) = 1 by decide), if_neg (show ¬ (10 : Int32) = 2 by decide), if_neg (show ¬ (10 : Int32) = 3 by decide), if_neg (show ¬ (10 : Int32) = 4 by decide), if_neg (show ¬ (10 : Int32) = 5 by decide), if_neg (show ¬ (10 : Int32) = 6 by decide), if_neg (show ¬ (10 : Int32) = 7 by decide), if_neg (show ¬ (10 : Int32) = 8 by decide), if_neg (show ¬ (10 : Int32) = 9 by decide), if_pos rfl]
  exact bind_eta _
theorem call_11 (d : kDk) (x y z : Int32) : fn_L_call d 11 x y z = bk_tryBest d x := by
  unfold fn_L_call
  rw [if_neg (show ¬ (11 : Int32) = 0 by decide), if_neg (show ¬ (11 : Int32) = 1 by decide), if_neg (show ¬ (11 : Int32) = 2 by decide), if_neg (show ¬ (11 : Int32) = 3 by decide), if_neg (show ¬ (11 : Int32) = 4 by decide), if_neg (show ¬ (11 : Int32) = 5 by decide), if_neg (show ¬ (11 : Int32) = 6 by decide), if_neg (show ¬ (11 : Int32) = 7 by decide), if_neg (show ¬ (11 : Int32) = 8 by decide), if_neg (show ¬ (11 : Int32) = 9 by decide), if_neg (show ¬ (11 : Int32) = 10 by decide), if_pos rfl]
  exact bind_eta _
theorem call_12 (d : kDk) (x y z : Int32) : fn_L_call d 12 x y z = bk_tryGoes d x y := by
  unfold fn_L_call
  rw [if_neg (show ¬ (12 : Int32) = 0 by decide), if_neg (show ¬ (12 : Int32) = 1 by decide), if_neg (show ¬ (12 : Int32) = 2 by decide), if_neg (show ¬ (12 : Int32) = 3 by decide), if_neg (show ¬ (12 : Int32) = 4 by decide), if_neg (show ¬ (12 : Int32) = 5 by decide), if_neg (show ¬ (12 : Int32) = 6 by decide), if_neg (show ¬ (12 : Int32) = 7 by decide), if_neg (show ¬ (12 : Int32) = 8 by decide), if_neg (show ¬ (12 : Int32) = 9 by decide), if_neg (show ¬ (12 : Int32) = 10 by decide), if_neg (show ¬ (12 : Int32) = 11 by decide), if_pos rfl]
  exact bind_eta _
theorem call_13 (d : kDk) (x y z : Int32) : fn_L_call d 13 x y z = bk_tryKeep d x := by
  unfold fn_L_call
  rw [if_neg (show ¬ (13 : Int32) = 0 by decide), if_neg (show ¬ (13 : Int32) = 1 by decide), if_neg (show ¬ (13 : Int32) = 2 by decide), if_neg (show ¬ (13 : Int32) = 3 by decide), if_neg (show ¬ (13 : Int32) = 4 by decide), if_neg (show ¬ (13 : Int32) = 5 by decide), if_neg (show ¬ (13 : Int32) = 6 by decide), if_neg (show ¬ (13 : Int32) = 7 by decide), if_neg (show ¬ (13 : Int32) = 8 by decide), if_neg (show ¬ (13 : Int32) = 9 by decide), if_neg (show ¬ (13 : Int32) = 10 by decide), if_neg (show ¬ (13 : Int32) = 11 by decide), if_neg (show ¬ (13 : Int32) = 12 by decide), if_pos rfl]
  exact bind_eta _
theorem call_14 (d : kDk) (x y z : Int32) : fn_L_call d 14 x y z = bk_tryBack d x := by
  unfold fn_L_call
  rw [if_neg (show ¬ (14 : Int32) = 0 by decide), if_neg (show ¬ (14 : Int32) = 1 by decide), if_neg (show ¬ (14 : Int32) = 2 by decide), if_neg (show ¬ (14 : Int32) = 3 by decide), if_neg (show ¬ (14 : Int32) = 4 by decide), if_neg (show ¬ (14 : Int32) = 5 by decide), if_neg (show ¬ (14 : Int32) = 6 by decide), if_neg (show ¬ (14 : Int32) = 7 by decide), if_neg (show ¬ (14 : Int32) = 8 by decide), if_neg (show ¬ (14 : Int32) = 9 by decide), if_neg (show ¬ (14 : Int32) = 10 by decide), if_neg (show ¬ (14 : Int32) = 11 by decide), if_neg (show ¬ (14 : Int32) = 12 by decide), if_neg (show ¬ (14 : Int32) = 13 by decide)]
  exact bind_eta _
abbrev dT (d : kDk) (t : kSt) : kDk := (d.1, t, d.2.2)
theorem krem_n {a c : Nat} (ha : a < 2 ^ 31) (h0 : 0 < c) (hc : c < 2 ^ 31) : krem (nI a) (nI c) = nI (a % c) := pk_rem ha h0 hc
theorem kdiv_n {a c : Nat} (ha : a < 2 ^ 31) (h0 : 0 < c) (hc : c < 2 ^ 31) : nI a / nI c = nI (a / c) := pk_div ha h0 hc
/-! refusals by the arguments alone -/
theorem ref_append {d : kDk} {a y z : Int32} (h : a < 0 ∨ ¬ a ≤ 255) : fn_L_call d 0 a y z = some (-9999002, d) := by
  have e : ∀ (len : Int32) (sg : kF), fn_X7_append len sg a = some (1, 0, len, sg) := fun len sg => by
    unfold fn_X7_append fn_X7_append_11
    by_cases c : a < 0
    · rw [if_pos c]
    · rw [if_neg c, if_neg (h.resolve_left c)]
  rw [call_0]
  unfold bk_tryAppend fn_L_tryAppend
  rw [e, kbs]
  rfl
theorem ref_about {d : kDk} {a y z : Int32} (h : ∀ j : Nat, j < 10 → a ≠ nI j) : fn_L_call d 2 a y z = some (-9999002, d) := by
  rw [call_2]
  unfold bk_tryAbout fn_L_tryAbout fn_X7_about
  rw [if_neg (show ¬ a = (0 : Int32) from h 0 (by omega)), if_neg (show ¬ a = (1 : Int32) from h 1 (by omega)), if_neg (show ¬ a = (2 : Int32) from h 2 (by omega)), if_neg (show ¬ a = (3 : Int32) from h 3 (by omega)), if_neg (show ¬ a = (4 : Int32) from h 4 (by omega)), if_neg (show ¬ a = (5 : Int32) from h 5 (by omega)), if_neg (show ¬ a = (6 : Int32) from h 6 (by omega)), if_neg (show ¬ a = (7 : Int32) from h 7 (by omega)), if_neg (show ¬ a = (8 : Int32) from h 8 (by omega)), if_neg (show ¬ a = (9 : Int32) from h 9 (by omega)), kbs]
  rfl
theorem ref_pin1 {d : kDk} {a b z : Int32} (h : fn_X7_isPin a = some 0) : fn_L_call d 3 a b z = some (-9999001, d) := by
  rw [call_3]
  unfold bk_tryPin fn_L_tryPin fn_X7_pin
  rw [h, kbs, if_pos rfl, kbs]
  rfl
theorem ref_pin2 {d : kDk} {a b z : Int32} (h : fn_X7_isPin a = some 1) (h2 : ∀ j : Nat, j < 4 → b ≠ nI j) : fn_L_call d 3 a b z = some (-9999002, d) := by
  rw [call_3]
  unfold bk_tryPin fn_L_tryPin fn_X7_pin
  rw [h, kbs, if_neg n10, if_neg (show ¬ b = (0 : Int32) from h2 0 (by omega)), if_neg (show ¬ b = (1 : Int32) from h2 1 (by omega)), if_neg (show ¬ b = (2 : Int32) from h2 2 (by omega)), if_neg (show ¬ b = (3 : Int32) from h2 3 (by omega)), kbs]
  rfl
theorem ref_frame1 {d : kDk} {a b z : Int32} (h : fn_X7_isFrame a = some 0) : fn_L_call d 4 a b z = some (-9999001, d) := by
  rw [call_4]
  unfold bk_tryFrame fn_L_tryFrame fn_X7_frame
  rw [h, kbs, if_pos rfl, kbs]
  rfl
theorem ref_frame2 {d : kDk} {a b z : Int32} (h : fn_X7_isFrame a = some 1) (h2 : ∀ j : Nat, j < 3 → b ≠ nI j) : fn_L_call d 4 a b z = some (-9999002, d) := by
  rw [call_4]
  unfold bk_tryFrame fn_L_tryFrame fn_X7_frame
  rw [h, kbs, if_neg n10, if_neg (show ¬ b = (0 : Int32) from h2 0 (by omega)), if_neg (show ¬ b = (1 : Int32) from h2 1 (by omega)), if_neg (show ¬ b = (2 : Int32) from h2 2 (by omega)), kbs]
  rfl
theorem ref_setting {d : kDk} {a y z : Int32} (h : fn_X7_isSetting a = some 0) : fn_L_call d 6 a y z = some (-9999002, d) := by
  rw [call_6]
  unfold bk_trySetting fn_L_trySetting fn_X7_setting
  rw [h, kbs, if_pos rfl, kbs]
  rfl
theorem ref_rolls {d : kDk} {a b c f : Int32} (h : fn_X7_isBall a b = some 0 ∨ (fn_X7_isBall a b = some 1 ∧ fn_X7_isSpeed c = some 0)) : bk_rolls d a b c f = some (-9999002, d) := by
  unfold bk_rolls fn_L_rolls fn_X7_roll fn_X7_roll_15
  rcases h with h | ⟨h, h2⟩
  · rw [h, kbs, if_pos rfl, kbs]
    rfl
  · rw [h, kbs, if_neg n10, h2, kbs, if_pos rfl, kbs]
    rfl
theorem ref_touch1 {d : kDk} {a b z : Int32} (h : fn_X7_isPin a = some 0) : fn_L_call d 7 a b z = some (-9999001, d) := by
  rw [call_7]
  unfold bk_tryTouch fn_L_tryTouch fn_X7_touch
  rw [h, kbs, if_pos rfl, kbs]
  rfl
theorem ref_touch2 {d : kDk} {a b z : Int32} (h : fn_X7_isPin a = some 1) (h2 : fn_X7_isLeaning b = some 0) : fn_L_call d 7 a b z = some (-9999002, d) := by
  rw [call_7]
  unfold bk_tryTouch fn_L_tryTouch fn_X7_touch
  rw [h, kbs, if_neg n10, h2, kbs, if_pos rfl, kbs]
  rfl
theorem ref_set {d : kDk} {a b z : Int32} (h : fn_X7_isSetting a = some 0 ∨ (fn_X7_isSetting a = some 1 ∧ fn_X7_isValue a b = some 0)) : fn_L_call d 8 a b z = some (-9999002, d) := by
  rw [call_8]
  unfold bk_tryLay fn_L_tryLay fn_X7_set fn_X7_set_15
  rcases h with h | ⟨h, h2⟩
  · rw [h, kbs, if_pos rfl, kbs]
    rfl
  · rw [h, kbs, if_neg n10, h2, kbs, if_pos rfl, kbs]
    rfl
theorem ref_would1 {d : kDk} {a b c : Int32} (h : fn_X7_isBall a b = some 0) : fn_L_call d 10 a b c = some (-9999002, d) := by
  rw [call_10]
  unfold bk_tryWould fn_L_tryWould fn_X7_would
  rw [h, kbs, if_pos rfl, kbs]
  rfl
theorem ref_best {d : kDk} {a y z : Int32} (h : fn_X7_isBall 0 a = some 0) : fn_L_call d 11 a y z = some (-9999002, d) := by
  rw [call_11]
  unfold bk_tryBest fn_L_tryBest fn_X7_bestBoard
  rw [h, kbs, if_pos rfl, kbs]
  rfl
theorem ref_goes {d : kDk} {a b z : Int32} (h : fn_X7_isBall a b = some 0) : fn_L_call d 12 a b z = some (-9999002, d) := by
  rw [call_12]
  unfold bk_tryGoes fn_L_tryGoes fn_X7_goesOn
  rw [h, kbs, if_pos rfl, kbs]
  rfl
theorem ref_save {d : kDk} {a y z : Int32} (h : fn_X7_isSlot a = some 0) : fn_L_call d 13 a y z = some (-9999001, d) := by
  rw [call_13]
  unfold bk_tryKeep fn_L_tryKeep fn_X7_save
  rw [h, kbs, if_pos rfl, kbs]
  rfl
theorem ref_back {d : kDk} {a y z : Int32} (h : fn_X7_isSlot a = some 0) : fn_L_call d 14 a y z = some (-9999001, d) := by
  rw [call_14]
  unfold bk_tryBack fn_L_tryBack fn_X7_restore
  rw [h, kbs, if_pos rfl, kbs]
  rfl
theorem ref_would2 {M R Fm : Nat} {T S : Nat → Nat} {d : kDk} {r : kF} (h : SRel M R Fm T S d.1.1 d.1.2.1 d.1.2.2.1 d.1.2.2.2.1 d.1.2.2.2.2.2.2.1 d.1.2.2.2.2.2.2.2.1 d.1.2.2.2.2.2.2.2.2.1 d.1.2.2.2.2.2.2.2.2.2.1 d.1.2.2.2.2.2.2.2.2.2.2.1 d.1.2.2.2.2.2.2.2.2.2.2.2.1 d.1.2.2.2.2.2.2.2.2.2.2.2.2 r) {a b c : Int32} (hb : fn_X7_isBall a b = some 1) (hc : ∀ j : Nat, j < 4 → c ≠ nI j) : ∃ t, fn_L_call d 10 a b c = some (-9999002, dT d t) := by
  obtain ⟨lb, hB⟩ := ball_ex h.2.1.2.1 a b
  obtain ⟨wl', wr', le', sh', t1, -⟩ := ask_try (ttold := d.2.1.2.2.2.1) (twl := d.2.1.2.2.2.2.1) (twr := d.2.1.2.2.2.2.2.1) (tle := d.2.1.2.2.2.2.2.2.1) (tsh := d.2.1.2.2.2.2.2.2.2.1) h hB
  rw [call_10]
  unfold bk_tryWould fn_L_tryWould fn_X7_would
  rw [hb, kbs, if_neg n10, t1, kbs, if_neg (show ¬ c = (0 : Int32) from hc 0 (by omega)), if_neg (show ¬ c = (1 : Int32) from hc 1 (by omega)), if_neg (show ¬ c = (2 : Int32) from hc 2 (by omega)), if_neg (show ¬ c = (3 : Int32) from hc 3 (by omega)), kbs, if_neg n10, if_pos rfl, kbs]
  exact ⟨_, rfl⟩
theorem ref_script1 {d : kDk} {s : Int64} : bk_doScript d 0 s = some (-9999002, d) := by
  unfold bk_doScript fn_L_doScript fn_X7_runScript
  rfl
theorem ref_sim {d : kDk} {s : Int64} {m : Int32} (h : ¬ m ≤ 60) (h1 : ¬ m < 1) : bk_doSimulate d s m = some (-9999002, d) := by
  unfold bk_doSimulate fn_L_doSimulate fn_X7_simulate
  rw [if_neg h1, if_neg h]
  rfl
