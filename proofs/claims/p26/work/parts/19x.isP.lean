/-! what is allowed: class and reference -/
theorem i_neg {x : Int32} : x < 0 ↔ ¬ 0 ≤ x := Int32.not_le.symm
theorem i_ge {x : Int32} {n : Nat} (hn : n + 1 < 2 ^ 31) : nI (n + 1) ≤ x ↔ ¬ x ≤ nI n := by
  rw [Int32.le_iff_toInt_le, Int32.le_iff_toInt_le, nI_toInt hn, nI_toInt (by omega)]
  omega
theorem i_gt {x : Int32} {n : Nat} : nI n < x ↔ ¬ x ≤ nI n := Int32.not_le.symm
theorem rng_c {x : Int32} {n : Nat} (hn : n + 1 < 2 ^ 31) {f : Int32 → Option Int32} (h0 : f 0 = some 0) (h1 : f 1 = some 1) : (if x < 0 then f 0 else if nI (n + 1) ≤ x then f 0 else f 1) = some (if 0 ≤ x ∧ x ≤ nI n then 1 else 0) := by
  by_cases a : x < 0
  · rw [if_pos a, if_neg (fun h => i_neg.mp a h.1), h0]
  · rw [if_neg a]
    by_cases b : nI (n + 1) ≤ x
    · rw [if_pos b, if_neg (fun h => (i_ge hn).mp b h.2), h0]
    · rw [if_neg b, if_pos ⟨Int32.not_lt.mp a, Decidable.not_not.mp (fun h => b ((i_ge hn).mpr h))⟩, h1]
theorem rng_c2 {x : Int32} {n : Nat} {f : Int32 → Option Int32} (h0 : f 0 = some 0) (h1 : f 1 = some 1) : (if x < 0 then f 0 else if nI n < x then f 0 else f 1) = some (if 0 ≤ x ∧ x ≤ nI n then 1 else 0) := by
  by_cases a : x < 0
  · rw [if_pos a, if_neg (fun h => i_neg.mp a h.1), h0]
  · rw [if_neg a]
    by_cases b : nI n < x
    · rw [if_pos b, if_neg (fun h => i_gt.mp b h.2), h0]
    · rw [if_neg b, if_pos ⟨Int32.not_lt.mp a, Int32.not_lt.mp b⟩, h1]
theorem pin_c (x : Int32) : fn_X7_isPin x = some (if 0 ≤ x ∧ x ≤ 9 then 1 else 0) := rng_c (n := 9) (by omega) (f := fn_X7_isPin_15) rfl rfl
theorem frame_c (x : Int32) : fn_X7_isFrame x = some (if 0 ≤ x ∧ x ≤ 9 then 1 else 0) := rng_c (n := 9) (by omega) (f := fn_X7_isFrame_15) rfl rfl
theorem setting_c (x : Int32) : fn_X7_isSetting x = some (if 0 ≤ x ∧ x ≤ 2 then 1 else 0) := rng_c (n := 2) (by omega) (f := fn_X7_isSetting_14) rfl rfl
theorem slot_c (x : Int32) : fn_X7_isSlot x = some (if 0 ≤ x ∧ x ≤ 1 then 1 else 0) := rng_c (n := 1) (by omega) (f := fn_X7_isSlot_14) rfl rfl
theorem lean3_c (x : Int32) : fn_X7_isLeaning x = some (if 0 ≤ x ∧ x ≤ 3 then 1 else 0) := rng_c2 (n := 3) (f := fn_X7_isLeaning_14) rfl rfl
theorem speed_c (x : Int32) : fn_X7_isSpeed x = some (if 1 ≤ x ∧ x ≤ 30 then 1 else 0) := by
  unfold fn_X7_isSpeed
  by_cases a : x < 1
  · rw [if_pos a, if_neg (fun h => Int32.not_le.mpr a h.1)]; rfl
  · rw [if_neg a]
    by_cases b : (30 : Int32) < x
    · rw [if_pos b, if_neg (fun h => Int32.not_le.mpr b h.2)]; rfl
    · rw [if_neg b, if_pos ⟨Int32.not_lt.mp a, Int32.not_lt.mp b⟩]; rfl
theorem value_c (x y : Int32) : fn_X7_isValue x y = some (if x = 0 then (if 3 ≤ y ∧ y ≤ 90 then 1 else 0) else if 0 ≤ y ∧ y ≤ 3 then 1 else 0) := by
  unfold fn_X7_isValue
  by_cases c : x = 0
  · rw [if_pos c, if_pos c]
    by_cases a : y < 3
    · rw [if_pos a, if_neg (fun h => Int32.not_le.mpr a h.1)]; rfl
    · rw [if_neg a]
      by_cases b : (90 : Int32) < y
      · rw [if_pos b, if_neg (fun h => Int32.not_le.mpr b h.2)]; rfl
      · rw [if_neg b, if_pos ⟨Int32.not_lt.mp a, Int32.not_lt.mp b⟩]; rfl
  · rw [if_neg c, if_neg c, lean3_c, kbs]
    by_cases a : 0 ≤ y ∧ y ≤ 3
    · rw [if_pos a]; rfl
    · rw [if_neg a]; rfl
theorem ball_c (x y : Int32) : fn_X7_isBall x y = some (if (0 ≤ x ∧ x ≤ 40) ∧ (-2 ≤ y ∧ y ≤ 2) then 1 else 0) := by
  unfold fn_X7_isBall
  by_cases a : x < 0
  · rw [if_pos a, if_neg (fun h => Int32.not_le.mpr a h.1.1)]; rfl
  · rw [if_neg a]
    by_cases b : (40 : Int32) < x
    · rw [if_pos b, if_neg (fun h => Int32.not_le.mpr b h.1.2)]; rfl
    · rw [if_neg b]
      by_cases c : y < -2
      · rw [if_pos c, if_neg (fun h => Int32.not_le.mpr c h.2.1)]; rfl
      · rw [if_neg c]
        by_cases d : (2 : Int32) < y
        · rw [if_pos d, if_neg (fun h => Int32.not_le.mpr d h.2.2)]; rfl
        · rw [if_neg d, if_pos ⟨⟨Int32.not_lt.mp a, Int32.not_lt.mp b⟩, Int32.not_lt.mp c, Int32.not_lt.mp d⟩]; rfl
theorem in_0_9 {x : Int32} : fn_X8_in x.toInt64 0 9 = some (if 0 ≤ x ∧ x ≤ 9 then 1 else 0) := in_m (lo := 0) (hi := 9)
theorem in_0_40 {x : Int32} : fn_X8_in x.toInt64 0 40 = some (if 0 ≤ x ∧ x ≤ 40 then 1 else 0) := in_m (lo := 0) (hi := 40)
theorem in_0_3 {x : Int32} : fn_X8_in x.toInt64 0 3 = some (if 0 ≤ x ∧ x ≤ 3 then 1 else 0) := in_m (lo := 0) (hi := 3)
theorem in_0_2 {x : Int32} : fn_X8_in x.toInt64 0 2 = some (if 0 ≤ x ∧ x ≤ 2 then 1 else 0) := in_m (lo := 0) (hi := 2)
theorem in_0_1 {x : Int32} : fn_X8_in x.toInt64 0 1 = some (if 0 ≤ x ∧ x ≤ 1 then 1 else 0) := in_m (lo := 0) (hi := 1)
theorem in_1_30 {x : Int32} : fn_X8_in x.toInt64 1 30 = some (if 1 ≤ x ∧ x ≤ 30 then 1 else 0) := in_m (lo := 1) (hi := 30)
theorem in_1_3 {x : Int32} : fn_X8_in x.toInt64 1 3 = some (if 1 ≤ x ∧ x ≤ 3 then 1 else 0) := in_m (lo := 1) (hi := 3)
theorem in_1_60 {x : Int32} : fn_X8_in x.toInt64 1 60 = some (if 1 ≤ x ∧ x ≤ 60 then 1 else 0) := in_m (lo := 1) (hi := 60)
theorem in_3_90 {x : Int32} : fn_X8_in x.toInt64 3 90 = some (if 3 ≤ x ∧ x ≤ 90 then 1 else 0) := in_m (lo := 3) (hi := 90)
theorem in_0_255 {x : Int32} : fn_X8_in x.toInt64 0 255 = some (if 0 ≤ x ∧ x ≤ 255 then 1 else 0) := in_m (lo := 0) (hi := 255)
theorem pin_m (x : Int32) : fn_X8_isPin x = some (if 0 ≤ x ∧ x ≤ 9 then 1 else 0) := by
  unfold fn_X8_isPin
  rw [in_0_9, kbs]
  by_cases c : 0 ≤ x ∧ x ≤ 9
  · rw [if_pos c]; rfl
  · rw [if_neg c]; rfl
theorem ball_m (x y : Int32) : fn_X8_isBall x y = some (if (0 ≤ x ∧ x ≤ 40) ∧ (-2 ≤ y ∧ y ≤ 2) then 1 else 0) := by
  unfold fn_X8_isBall
  rw [in_0_40, kbs, in_m2]
  by_cases c : 0 ≤ x ∧ x ≤ 40
  · rw [if_pos c, if_neg (by decide), kbs]
    by_cases d : -2 ≤ y ∧ y ≤ 2
    · rw [if_pos d, if_neg (by decide), if_pos ⟨c, d⟩]; rfl
    · rw [if_neg d, if_pos rfl, if_neg (fun h => d h.2)]; rfl
  · rw [if_neg c, if_pos rfl, if_neg (fun h => c h.1)]; rfl
theorem setting_m (x y : Int32) : fn_X8_isSetting x y = some (if (0 ≤ x ∧ x ≤ 2) ∧ (if x = 0 then 3 ≤ y ∧ y ≤ 90 else 0 ≤ y ∧ y ≤ 3) then 1 else 0) := by
  unfold fn_X8_isSetting fn_X8_isSetting_28
  by_cases c0 : x = 0
  · subst c0
    rw [if_pos rfl, in_3_90, kbs]
    by_cases d : 3 ≤ y ∧ y ≤ 90
    · rw [if_pos d, if_pos ⟨by decide, by rw [if_pos rfl]; exact d⟩]; rfl
    · rw [if_neg d, if_neg (fun h => d (by have := h.2; rwa [if_pos rfl] at this))]; rfl
  · rw [if_neg c0]
    simp only [if_neg c0]
    rw [in_0_3, kbs]
    have key : ∀ P : Prop, [Decidable P] → (if (if P then (1 : Int32) else 0) = 0 then fn_X8_isSetting_44 else fn_X8_isSetting_45 1) = some (if P then 1 else 0) := by
      intro P _
      by_cases d : P
      · rw [if_pos d, if_neg (by decide)]; rfl
      · rw [if_neg d, if_pos rfl]; rfl
    by_cases c1 : x = 1
    · subst c1
      rw [if_pos rfl, key]
      by_cases d : 0 ≤ y ∧ y ≤ 3
      · rw [if_pos d, if_pos ⟨by decide, d⟩]
      · rw [if_neg d, if_neg (fun h => d h.2)]
    · rw [if_neg c1]
      by_cases c2 : x = 2
      · subst c2
        rw [if_pos rfl, key]
        by_cases d : 0 ≤ y ∧ y ≤ 3
        · rw [if_pos d, if_pos ⟨by decide, d⟩]
        · rw [if_neg d, if_neg (fun h => d h.2)]
      · rw [if_neg c2, if_neg]
        · rfl
        · rintro ⟨⟨h1, h2⟩, -⟩
          obtain ⟨j, hj, rfl⟩ := nI_of2 (M := 2) (n := 2) rfl (Int32.not_lt.mpr h1) h2
          rcases (show j = 0 ∨ j = 1 ∨ j = 2 by omega) with e | e | e <;> subst e
          · exact c0 rfl
          · exact c1 rfl
          · exact c2 rfl
theorem refused_m (ref x : Int32) : fn_X8_refused ref x = some (if x ≤ 0 then 0 else 1, x) := by
  unfold fn_X8_refused
  by_cases c : x ≤ 0
  · rw [if_pos c, if_pos c]; rfl
  · rw [if_neg c, if_neg c]; rfl
theorem nat_of {x : Int32} {n : Nat} (hn : n < 2 ^ 31) (h : 0 ≤ x ∧ x ≤ nI n) : ∃ j : Nat, j ≤ n ∧ x = nI j := nI_of2 (nI_toInt hn) (Int32.not_lt.mpr h.1) h.2
