/-! what refuses answers -/
theorem ne_n {a j : Nat} (ha : a < 2 ^ 31) (hj : j < 2 ^ 31) (h : a ≠ j) : nI a ≠ nI j := fun e => h ((nI_eq ha hj).mp e)
theorem s64 {X : Nat} (hX : X < 100000) : ¬ ((100000 : Int64) + (nI X).toInt64) < 0 ∧ ¬ ((100000 : Int64) + (nI X).toInt64) < 100000 := by
  have e : ((100000 : Int64) + (nI X).toInt64).toInt = 100000 + (X : Int) := by
    rw [Int64.toInt_add, Int32.toInt_toInt64, nI_toInt (show X < 2 ^ 31 by omega), show (100000 : Int64).toInt = 100000 from by decide, Int.bmod_def]
    omega
  refine ⟨fun h => ?_, fun h => ?_⟩
  · rw [Int64.lt_iff_toInt_lt, e, show (0 : Int64).toInt = 0 from by decide] at h
    omega
  · rw [Int64.lt_iff_toInt_lt, e, show (100000 : Int64).toInt = 100000 from by decide] at h
    omega
theorem ref_script2 {d : kDk} {X : Nat} (hX : X < 100000) : bk_doScript d 1 ((100000 : Int64) + (nI X).toInt64) = some (-9999002, d) := by
  have h0 : ¬ lg_cmp ((100000 : Int64) + (nI X).toInt64) (0 : Int64) < 0 := fun z => (s64 hX).1 (lcmp_lt.mp z)
  have h1 : ¬ lg_cmp ((100000 : Int64) + (nI X).toInt64) (100000 : Int64) < 0 := fun z => (s64 hX).2 (lcmp_lt.mp z)
  have hu : fn_X3_unitOf 1 = some 100000 := by decide +kernel
  unfold bk_doScript fn_L_doScript fn_X7_runScript fn_X7_runScript_36
  rw [if_neg (show ¬ ((1 : Int32) < 1) by decide), if_pos (show (1 : Int32) ≤ 3 by decide), if_neg h0, hu, kbs, if_neg h1, kbs, if_neg n10, if_pos rfl, kbs]
theorem DI.gd {d : kDk} {m : kMd} (h : DI d m) : ∃ (M R Fm : Nat) (T S : Nat → Nat), SRel M R Fm T S d.1.1 d.1.2.1 d.1.2.2.1 d.1.2.2.2.1 d.1.2.2.2.2.2.2.1 d.1.2.2.2.2.2.2.2.1 d.1.2.2.2.2.2.2.2.2.1 d.1.2.2.2.2.2.2.2.2.2.1 d.1.2.2.2.2.2.2.2.2.2.2.1 d.1.2.2.2.2.2.2.2.2.2.2.2.1 d.1.2.2.2.2.2.2.2.2.2.2.2.2 m.1 ∧ EX M R Fm T S := h.1
theorem ref_taken {d : kDk} {m : kMd} (h : DI d m) {R j : Nat} (hR : m.1 51 = nI R) (hR2 : R ≤ 21) (hj : j < 9) : fn_L_call d 5 (m.1 51 + nI j) 0 0 = some (-9999001, d) := by
  obtain ⟨M, R2, Fm, T, S, hN, -⟩ := h.gd
  have e1 := hN.2.2.2.2.1.1
  have hb := R_le hN.2.2.1
  have e2 : R2 = R := (nI_eq (by omega) (by omega)).mp (e1.symm.trans hR)
  subst e2
  rw [call_5, hR, nI_add]
  unfold bk_tryTaken fn_L_tryTaken
  rw [ask_taken hN (i := R2 + j) (by omega), if_neg (by omega), kbs, if_neg (show ¬ (3 : Int32) = 0 by decide), if_pos rfl, kbs]
set_option maxHeartbeats 4000000 in
theorem ref_71 {d : kDk} {m : kMd} (h : DI d m) {X : Nat} (hX : X < 100000) {no far c : Int32} (h1 : fn_X7_isPin no = some 0) (h2 : fn_X7_isFrame no = some 0) (h3 : fn_X7_isBall far 0 = some 0) (h4 : c < 0 ∨ ¬ c ≤ 255) : ∃ t, fn_L_refuses_71 d (nI X) no far 0 c = some (1, dT d t) := by
  obtain ⟨M, R, Fm, T, S, hN, -⟩ := h.gd
  have hR := R_le hN.2.2.1
  have k2 : krem (nI X) 2 = nI (X % 2) := krem_n (c := 2) (by omega) (by omega) (by omega)
  have k3 : krem (nI X) 3 = nI (X % 3) := krem_n (c := 3) (by omega) (by omega) (by omega)
  have k9 : krem (nI X) 9 = nI (X % 9) := krem_n (c := 9) (by omega) (by omega) (by omega)
  have k10 : krem (nI X) 10 = nI (X % 10) := krem_n (c := 10) (by omega) (by omega) (by omega)
  have k41 : krem (nI X) 41 = nI (X % 41) := krem_n (c := 41) (by omega) (by omega) (by omega)
  have k50 : krem (nI X) 50 = nI (X % 50) := krem_n (c := 50) (by omega) (by omega) (by omega)
  have l2 : X % 2 < 2 := Nat.mod_lt _ (by omega)
  have l3 : X % 3 < 3 := Nat.mod_lt _ (by omega)
  have l9 : X % 9 < 9 := Nat.mod_lt _ (by omega)
  have l10 : X % 10 < 10 := Nat.mod_lt _ (by omega)
  have l41 : X % 41 < 41 := Nat.mod_lt _ (by omega)
  have l50 : X % 50 < 50 := Nat.mod_lt _ (by omega)
  unfold fn_L_refuses_71
  rw [k2, k3, k9, k10, k41, k50]
  generalize X % 2 = a2 at l2 ⊢
  generalize X % 3 = a3 at l3 ⊢
  generalize X % 9 = a9 at l9 ⊢
  generalize X % 10 = a10 at l10 ⊢
  generalize X % 41 = a41 at l41 ⊢
  generalize X % 50 = a50 at l50 ⊢
  have ball1 : fn_X7_isBall (nI a41) 0 = some 1 := ball_k (b := a41) (by omega) ⟨by decide, by decide⟩
  have ge4 : ∀ j : Nat, j < 4 → (4 + nI a9 : Int32) ≠ nI j := fun j hj => by
    rw [show (4 + nI a9 : Int32) = nI (4 + a9) from nI_add 4 a9]
    exact ne_n (by omega) (by omega) (by omega)
  obtain ⟨t, ht⟩ := ref_would2 hN ball1 ge4
  refine ⟨t, ?_⟩
  refine (rstep (ref_append h4) rfl).trans ?_
  refine (rstep (ref_about (a := 10 + nI a50) (fun j hj => by rw [show (10 + nI a50 : Int32) = nI (10 + a50) from nI_add 10 a50]; exact ne_n (by omega) (by omega) (by omega))) rfl).trans ?_
  refine (rstep (ref_pin1 h1) rfl).trans ?_
  refine (rstep (ref_pin2 (pin_k l10) ge4) rfl).trans ?_
  refine (rstep (ref_frame1 h2) rfl).trans ?_
  refine (rstep (ref_frame2 (frame_k l10) (fun j hj => by rw [show (3 + nI a9 : Int32) = nI (3 + a9) from nI_add 3 a9]; exact ne_n (by omega) (by omega) (by omega))) rfl).trans ?_
  refine (rgo h.rolls).trans ?_
  refine (rstep (ref_taken h hN.2.2.2.2.1.1 hR l9) rfl).trans ?_
  have s3 : fn_X7_isSetting (3 + nI a9) = some 0 := (show ∀ r, r < 9 → fn_X7_isSetting (3 + nI r) = some 0 by decide +kernel) a9 l9
  refine (rstep (ref_setting s3) rfl).trans ?_
  refine (rstep (ref_rolls (Or.inl h3)) rfl).trans ?_
  refine (rstep (ref_rolls (Or.inl ((show ∀ a, a < 41 → ∀ r, r < 9 → fn_X7_isBall (nI a) (3 + nI r) = some 0 by decide +kernel) a41 l41 a9 l9))) rfl).trans ?_
  refine (rstep (ref_rolls (Or.inl ((show ∀ a, a < 41 → ∀ r, r < 9 → fn_X7_isBall (nI a) (-3 - nI r) = some 0 by decide +kernel) a41 l41 a9 l9))) rfl).trans ?_
  refine (rstep (ref_rolls (Or.inr ⟨ball1, (show ∀ r, r < 9 → fn_X7_isSpeed (31 + nI r) = some 0 by decide +kernel) a9 l9⟩)) rfl).trans ?_
  refine (rstep (ref_rolls (Or.inr ⟨ball1, (show ∀ r, r < 9 → fn_X7_isSpeed (-nI r) = some 0 by decide +kernel) a9 l9⟩)) rfl).trans ?_
  refine (rstep (ref_touch1 h1) rfl).trans ?_
  refine (rstep (ref_touch2 (pin_k l10) ((show ∀ r, r < 9 → fn_X7_isLeaning (4 + nI r) = some 0 by decide +kernel) a9 l9)) rfl).trans ?_
  refine (rstep (ref_set (Or.inr ⟨by decide +kernel, (show ∀ r, r < 3 → fn_X7_isValue 0 (nI r) = some 0 by decide +kernel) a3 l3⟩)) rfl).trans ?_
  refine (rstep (ref_set (Or.inr ⟨(show ∀ a, a < 2 → fn_X7_isSetting (1 + nI a) = some 1 by decide +kernel) a2 l2, (show ∀ a, a < 2 → ∀ r, r < 9 → fn_X7_isValue (1 + nI a) (4 + nI r) = some 0 by decide +kernel) a2 l2 a9 l9⟩)) rfl).trans ?_
  refine (rstep (ref_set (Or.inl s3)) rfl).trans ?_
  refine (rstep (ref_would1 h3) rfl).trans ?_
  refine (rstep ht rfl).trans ?_
  refine (rstep (ref_best ((show ∀ r, r < 9 → fn_X7_isBall 0 (3 + nI r) = some 0 by decide +kernel) a9 l9)) rfl).trans ?_
  refine (rstep (ref_goes h3) rfl).trans ?_
  refine (rstep (ref_goes ((show ∀ a, a < 41 → fn_X7_isBall (nI a) (-3) = some 0 by decide +kernel) a41 l41)) rfl).trans ?_
  refine (rstep (ref_save ((show ∀ r, r < 50 → fn_X7_isSlot (2 + nI r) = some 0 by decide +kernel) a50 l50)) rfl).trans ?_
  refine (rstep (ref_back ((show ∀ r, r < 9 → fn_X7_isSlot (-1 - nI r) = some 0 by decide +kernel) a9 l9)) rfl).trans ?_
  refine (rstep ref_script1 rfl).trans ?_
  refine (rstep (ref_script2 hX) rfl).trans ?_
  refine (rstep (ref_sim ((show ∀ r, r < 9 → ¬ (61 + nI r : Int32) ≤ 60 by decide +kernel) a9 l9) ((show ∀ r, r < 9 → ¬ (61 + nI r : Int32) < 1 by decide +kernel) a9 l9)) rfl).trans ?_
  show fn_L_refuses_585 (dT d t) 1 = _
  unfold fn_L_refuses_585
  exact if_pos (Or.inr rfl)
theorem refuses_all {d : kDk} {m : kMd} (h : DI d m) {X : Nat} (hX : X < 100000) : ∃ t, fn_L_refuses d (nI X) = some (1, dT d t) := by
  have k2 : krem (nI X) 2 = nI (X % 2) := krem_n (c := 2) (by omega) (by omega) (by omega)
  have k9 : krem (nI X) 9 = nI (X % 9) := krem_n (c := 9) (by omega) (by omega) (by omega)
  have k99 : krem (nI X) 99 = nI (X % 99) := krem_n (c := 99) (by omega) (by omega) (by omega)
  have l9 : X % 9 < 9 := Nat.mod_lt _ (by omega)
  have l99 : X % 99 < 99 := Nat.mod_lt _ (by omega)
  unfold fn_L_refuses fn_L_refuses_22 fn_L_refuses_45
  rw [k2, k9, k99]
  by_cases c : nI (X % 2) = 0
  · rw [if_pos c, if_pos c, if_pos c]
    exact ref_71 h hX ((show ∀ r, r < 99 → fn_X7_isPin (-1 - nI r) = some 0 by decide +kernel) _ l99) ((show ∀ r, r < 99 → fn_X7_isFrame (-1 - nI r) = some 0 by decide +kernel) _ l99) ((show ∀ r, r < 99 → fn_X7_isBall (-1 - nI r) 0 = some 0 by decide +kernel) _ l99) (Or.inl ((show ∀ r, r < 9 → (-1 - nI r : Int32) < 0 by decide +kernel) _ l9))
  · rw [if_neg c, if_neg c, if_neg c]
    exact ref_71 h hX ((show ∀ r, r < 99 → fn_X7_isPin (10 + nI r) = some 0 by decide +kernel) _ l99) ((show ∀ r, r < 99 → fn_X7_isFrame (10 + nI r) = some 0 by decide +kernel) _ l99) ((show ∀ r, r < 99 → fn_X7_isBall (41 + nI r) 0 = some 0 by decide +kernel) _ l99) (Or.inr ((show ∀ r, r < 9 → ¬ (256 + nI r : Int32) ≤ 255 by decide +kernel) _ l9))
