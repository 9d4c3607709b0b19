/-! a roll, told more closely -/
theorem nmask_congr {P Q : Nat → Bool} (h : ∀ k, k < 10 → P k = Q k) : nmask P 10 = nmask Q 10 :=
  mask_ext (nmask_lt _ 10) (nmask_lt _ 10) (fun k hk => by rw [nmask_bit, nmask_bit, h k hk])
theorem nmore_congr {le le' : kF} {x : Int32} (h : ∀ k, k < 10 → le' k = le k) : nmore le' x = nmore le x :=
  nmask_congr (fun k hk => by rw [h k hk])
/-- what a ball does to pins that lean and stand so, whatever else the cells hold -/
def BALL (le sh : kF) (B D : Int32) (lb : kF) : Prop := (∀ k, k < 10 → lvok (lb k)) ∧ ∀ (wl wr : Int32) (le1 sh1 : kF), (∀ k, k < 10 → le1 k = le k ∧ sh1 k = sh k) →
  ∃ (wl' wr' : Int32) (le' sh' : kF), fn_X2_meetBall wl wr le1 sh1 B D = some (wl', wr', le', sh') ∧ (∀ k, k < 10 → le' k = lb k) ∧ wl' ||| wr' = nI (nmask (P5 lb le) 10)
theorem ball_ex {le sh r : kF} (hP : PR le sh r) (B D : Int32) : ∃ lb, BALL le sh B D lb := by
  obtain ⟨_, _, le0, sh0, side0, r0, -, e0, hP0, -⟩ := sim_ball (wl := 0) (wr := 0) (B := B) (D := D) (side := r) hP
  refine ⟨r0, fun k hk => ?_, fun wl wr le1 sh1 hk => ?_⟩
  · rw [(hP0 k hk).1]
    exact (hP0 k hk).2.2.1
  · have hP1 : PR le1 sh1 r := fun k hk2 => by
      obtain ⟨a, b, c, d⟩ := hP k hk2
      rw [(hk k hk2).1, (hk k hk2).2]
      exact ⟨a, b, c, d⟩
    obtain ⟨wl', wr', le', sh', side', r', b1, b2, b3, b4, -⟩ := sim_ball (wl := wl) (wr := wr) (B := B) (D := D) (side := r) hP1
    rw [e0] at b2
    have b5 := Option.some.inj b2
    have b6 : r0 = r' := congrArg Prod.snd b5
    subst b6
    have b7 : ∀ k, k < 10 → le' k = r0 k := fun k hk2 => ((b3 k hk2).1).symm
    refine ⟨wl', wr', le', sh', b1, b7, (would_fell b4).trans (congrArg nI (nmask_congr fun k hk2 => ?_))⟩
    unfold P5
    rw [b7 k hk2, (hk k hk2).1]
section BO2
variable {R Fm : Nat} {T S : Nat → Nat}
theorem sim_after2 {M : Nat} {sto dro fou rolls frm x4 wl wr : Int32} {le sh tk sr se r side was : kF} (hP : PI M le sh r) (h : SInv R Fm T S) (hC : CSH R Fm T S rolls frm tk sr) (hM : MSH R Fm T S r) (hX : RX sto dro fou se r) (hS : SE se) (hF : Fm < 10) {t : Nat} (ht : t ≤ 10) :
    ∃ (M' : Nat) (dro' : Int32) (le' sh' tk' sr' r' : kF), fn_X6_bowl_68 sto dro (fou + (if x4 = 0 then 0 else 1)) (nI M) wl wr le sh rolls frm tk sr se (nI t) = some (nI t, sto, dro', fou + (if x4 = 0 then 0 else 1), nI M', wl, wr, le', sh', nI (R + 1), nI (nF R Fm t T S), tk', sr') ∧
      fn_X8_rollOn_94 side was r x4 (nI t) = some (nI t, side, was, r') ∧ SRel M' (R + 1) (nF R Fm t T S) (tup T R t) (nS R Fm t T S) sto dro' (fou + (if x4 = 0 then 0 else 1)) (nI M') le' sh' (nI (R + 1)) (nI (nF R Fm t T S)) tk' sr' se r' ∧ (nkind R Fm t T S = 2 → (∀ k, k < 10 → M'.testBit k = true → M.testBit k = true) ∧ ∀ k, k < 10 → le' k = if M'.testBit k then 0 else 4) := by
  have hR := R_le20 h hF
  obtain ⟨tk', sr', ha, hC'⟩ := add_c h hC hF ht
  obtain ⟨r1, hm, hM1, h75, hk1⟩ := add_m (side := side) (was := was) (x4 := x4) h hF ht hM
  obtain ⟨r2, hg, hM2, hk2⟩ := goOn_m h hF ht hM1
  have hw := wants_c h hF ht hC'
  have hN : SInv (R + 1) (nF R Fm t T S) (tup T R t) (nS R Fm t T S) := SInv_add h hF ht
  have hF2 := hN.1
  have hk : ∀ i, i < 30 → r2 i = r i := fun i hi => (hk2 i (Or.inl hi)).trans (hk1 i (Or.inl hi) (by omega))
  have hP2 : PI M le sh r2 := hP.keep hk
  have hX2 : RX sto dro (fou + (if x4 = 0 then 0 else 1)) se r2 := by
    obtain ⟨a1, a2, a3, a4, a5, a6⟩ := hX
    refine ⟨?_, ?_, ?_, ?_, ?_, ?_⟩
    · rw [hk2 73 (by omega), hk1 73 (by omega) (by omega), a1]
    · rw [hk2 74 (by omega), hk1 74 (by omega) (by omega), a2]
    · rw [hk2 75 (by omega), h75, a3]
    · rw [hk2 76 (by omega), hk1 76 (by omega) (by omega), a4]
    · rw [hk2 77 (by omega), hk1 77 (by omega) (by omega), a5]
    · rw [hk2 78 (by omega), hk1 78 (by omega) (by omega), a6]
  unfold fn_X6_bowl_68
  rw [ha, kbs, hw, kbs, hm, hg]
  rcases (show nkind R Fm t T S = 0 ∨ nkind R Fm t T S = 1 ∨ nkind R Fm t T S = 2 by unfold nkind; split <;> split <;> (try split) <;> omega) with e | e | e
  · have e10 : nF R Fm t T S = 10 := by
      unfold nkind at e
      unfold nF
      split at e
      · rename_i hd
        rw [if_pos hd]
        split at e <;> omega
      · split at e
        · omega
        · split at e <;> omega
    rw [e, if_neg (show ¬ (0 = 1) by omega), if_pos rfl, isOver_c hF2, kbs, if_pos e10, if_neg (by decide)]
    exact ⟨M, dro, le, sh, tk', sr', r2, rfl, rfl, ⟨rfl, hP2, hN, hC', hM2, hX2, hS⟩, fun h2 => absurd h2 (by decide)⟩
  · obtain ⟨le', sh', hc, hl⟩ := rack_c (told := nI M) (le := le) (sh := sh)
    obtain ⟨r3, hr3, hl3, hk3⟩ := rack_m (r := r2)
    rw [e, if_pos rfl, if_neg (by decide), hc, kbs]
    refine ⟨1023, dro, le', sh', tk', sr', r3, rfl, ?_, ⟨rfl, PI_rack hl hl3, hN, hC', hM2.keep (by omega) (fun i hi _ => hk3 i hi), ?_, hS⟩, fun h2 => absurd h2 (by decide)⟩
    · show ((fn_X8_rack r2).bind fun o => some o).bind _ = _
      rw [hr3, kbs, kbs]
    · obtain ⟨a1, a2, a3, a4, a5, a6⟩ := hX2
      exact ⟨(hk3 73 (by omega)).trans a1, (hk3 74 (by omega)).trans a2, (hk3 75 (by omega)).trans a3, (hk3 76 (by omega)).trans a4, (hk3 77 (by omega)).trans a5, (hk3 78 (by omega)).trans a6⟩
  · have e10 : nF R Fm t T S ≠ 10 := by
      unfold nkind at e
      unfold nF
      split at e
      · split at e <;> omega
      · rename_i hd
        rw [if_neg hd]
        omega
    obtain ⟨le', hc, hl⟩ := setAgain_c (M := M) (le := le) (x := se 2) hP2.1
    obtain ⟨r3, hr3, hT3, hl3, h74, hk3⟩ := setAgain_m (M := M) (le := le) (x := se 2) hP2.2.1 hP2.2.2.1 hP2.2.2.2 hX2.2.2.2.2.2
    rw [e, if_neg (show ¬ (2 = 1) by omega), if_pos rfl, isOver_c hF2, kbs, if_neg e10, if_pos rfl, hc, kbs]
    refine ⟨_, _, le', sh, tk', sr', r3, rfl, ?_, ⟨rfl, PI_again hP2 nless_lt hl hl3 hT3 (fun i hi hi2 => hk3 i (by omega) (by omega)), hN, hC', hM2.keep (by omega) (fun i hi hi2 => hk3 i (Or.inr hi) (by omega)), ?_, hS⟩, fun _ => ⟨fun k hk hb => by rw [nless_bit hk, Bool.and_eq_true] at hb; exact hb.1, hl⟩⟩
    · show ((fn_X8_setAgain r2).bind fun o => some o).bind _ = _
      rw [hr3, kbs, kbs]
    · obtain ⟨a1, a2, a3, a4, a5, a6⟩ := hX2
      refine ⟨(hk3 73 (by omega) (by omega)).trans a1, ?_, (hk3 75 (by omega) (by omega)).trans a3, (hk3 76 (by omega) (by omega)).trans a4, (hk3 77 (by omega) (by omega)).trans a5, (hk3 78 (by omega) (by omega)).trans a6⟩
      rw [h74, a2]
theorem sim_roll2 {M : Nat} {sto dro fou told rolls frm x1 x2 x4 wl wr : Int32} {le sh tk sr se r side was lb : kF} (h : SRel M R Fm T S sto dro fou told le sh rolls frm tk sr se r) (hF : Fm < 10) (hB : BALL le sh x1 x2 lb) :
    ∃ (t M' : Nat) (wl' wr' dro' fou' : Int32) (le' sh' tk' sr' side' was' r' : kF), t ≤ npop M 10 ∧ cRoll sto dro fou told wl wr le sh rolls frm tk sr se x1 x2 x4 = some (nI t, sto, dro', fou', nI M', wl', wr', le', sh', nI (R + 1), nI (nF R Fm t T S), tk', sr') ∧
      fn_X8_rollOn side was r x1 x2 x4 = some (nI t, side', was', r') ∧ SRel M' (R + 1) (nF R Fm t T S) (tup T R t) (nS R Fm t T S) sto dro' fou' (nI M') le' sh' (nI (R + 1)) (nI (nF R Fm t T S)) tk' sr' se r' ∧
      (nkind R Fm t T S = 2 → t + npop M' 10 ≤ npop M 10) ∧ (x4 = 0 → t = npop (M &&& nmore lb (se 1)) 10 ∧ (nkind R Fm t T S = 2 → ∀ k, k < 10 → lb k = 4 → le' k = 4)) := by
  obtain ⟨rfl, hP, hI, hC, hM, hX, hS⟩ := h
  have hR := R_le20 hI hF
  unfold fn_X8_rollOn
  rw [told_m hP.2.2.1, kbs]
  obtain ⟨was', hw, e1⟩ := was_loop (r := r) (side := side) (x2 := x1) (x3 := x2) (x4 := x4) (x5 := nI (npop M 10)) 30 0 4096 was (by omega) (by omega) (fun j hj => absurd hj (Nat.not_lt_zero j))
  obtain ⟨wl', wr', le', sh', side', r', b1, b2, b3, b4, b5⟩ := sim_ball (wl := wl) (wr := wr) (B := x1) (D := x2) (side := side) hP.2.1
  have hT' : TBR M r' := fun k hk => (b5 (20 + k) (by omega)).trans (hP.2.2.1 k hk)
  obtain ⟨r2, t1, t2, t3, t4⟩ := sim_tell (M := M) (le := le') (sh := sh') (r := r') (x := se 1) hP.1 hS.2 b3 hT' ((b5 77 (by omega)).trans hX.2.2.2.2.1)
  have hk30 : ∀ i, 30 ≤ i → r2 i = r i := fun i hi => (t4 i (Or.inr hi)).trans (b5 i (by omega))
  rw [show (0 : Int32) = nI 0 from rfl, e1]
  show ∃ (t M' : Nat) (wl' wr' dro' fou' : Int32) (le' sh' tk' sr' side' was' r' : kF), t ≤ npop M 10 ∧ cRoll _ _ _ _ _ _ _ _ _ _ _ _ _ _ _ _ = _ ∧ (if (30 : Int32) ≤ nI 30 then (fn_X8_ball side r x1 x2).bind _ else _) = _ ∧ _
  rw [if_pos (show (30 : Int32) ≤ nI 30 from Int32.le_refl _), b2, kbs, t2, kbs]
  unfold cRoll
  by_cases c : x4 = 0
  · rw [if_pos c, if_pos c, b1, kbs, t1, kbs, bitCount_eq (and_lt hP.1), kbs, told_m t3, kbs, pk_sub (show npop (nless M (nmore le' (se 1))) 10 ≤ npop M 10 by have := npop_split (M := M) (N := nmore le' (se 1)) 10 (by omega); omega), show npop M 10 - npop (nless M (nmore le' (se 1))) 10 = npop (M &&& nmore le' (se 1)) 10 by have := npop_split (M := M) (N := nmore le' (se 1)) 10 (by omega); omega]
    have hP2 : PI (nless M (nmore le' (se 1))) le' sh' r2 := by
      refine ⟨nless_lt, fun k hk => ?_, t3, fun k hk hb => ?_⟩
      · obtain ⟨c1, c2, c3, c4⟩ := b3 k hk
        exact ⟨(t4 k (by omega)).trans c1, (t4 (10 + k) (by omega)).trans c2, c3, c4⟩
      · rw [nless_bit hk, nmore_bit hk] at hb
        intro e
        rw [e] at hb
        have h4 : ¬ (4 : Int32) ≤ se 1 := Int32.not_le.mpr hS.2
        simp [h4] at hb
    obtain ⟨M', dro', le2, sh2, tk', sr', r3, k1, k2, k3, k4⟩ := sim_after2 (x4 := x4) (wl := wl') (wr := wr') (side := side') (was := was') hP2 hI hC (hM.keep (by omega) (fun i hi _ => hk30 i hi)) (show RX sto dro fou se r2 from ⟨(hk30 73 (by omega)).trans hX.1, (hk30 74 (by omega)).trans hX.2.1, (hk30 75 (by omega)).trans hX.2.2.1, (hk30 76 (by omega)).trans hX.2.2.2.1, (hk30 77 (by omega)).trans hX.2.2.2.2.1, (hk30 78 (by omega)).trans hX.2.2.2.2.2⟩) hS hF (npop_le (M &&& nmore le' (se 1)) 10)
    rw [if_pos c, Int32.add_zero] at k1 k3
    have hsp := npop_split (M := M) (N := nmore le' (se 1)) 10 (by omega)
    have hlb : nmore lb (se 1) = nmore le' (se 1) := by
      obtain ⟨wl3, wr3, le3, sh3, c1, c2, -⟩ := hB.2 wl wr le sh (fun _ _ => ⟨rfl, rfl⟩)
      rw [b1] at c1
      have c3 := Option.some.inj c1
      have c4 : le' = le3 := congrArg (fun z => z.2.2.1) c3
      subst c4
      exact nmore_congr (fun k hk => (c2 k hk).symm)
    refine ⟨_, M', wl', wr', dro', fou, le2, sh2, tk', sr', side', was', r3, (show npop (M &&& nmore le' (se 1)) 10 ≤ npop M 10 by omega), k1, ?_, k3, fun h2 => ?_, fun _ => ⟨by rw [hlb], fun h2 k hk h4 => ?_⟩⟩
    rotate_left
    · have := npop_mono (k4 h2).1 10 (Nat.le_refl 10)
      omega
    · rw [(k4 h2).2 k hk]
      refine if_neg fun hb => ?_
      have hb2 := (k4 h2).1 k hk hb
      rw [← hlb, nless_bit hk, nmore_bit hk, h4] at hb2
      have h9 : ¬ (4 : Int32) ≤ se 1 := Int32.not_le.mpr hS.2
      simp [h9] at hb2
    rw [← k2]
    show fn_X8_rollOn_65 4096 _ _ _ _ _ _ = _
    show (if (30 : Int32) ≤ nI 0 then _ else _) = _
    rw [if_neg (by decide), if_pos c]
  · rw [if_neg c, if_neg c]
    obtain ⟨r3, d1, d2, d3⟩ := back_loop (was := was') (side := side') (r0 := r) (x4 := x4) (x6 := 0) c 30 0 4096 r2 (by omega) (by omega) (fun j hj => absurd hj (Nat.not_lt_zero j)) hk30
    obtain ⟨M', dro', le2, sh2, tk', sr', r4, k1, k2, k3, k4⟩ := sim_after2 (x4 := x4) (wl := wl) (wr := wr) (side := side') (was := was') (hP.keep (fun i hi => (d1 i hi).trans (hw i hi))) hI hC (hM.keep (by omega) (fun i hi _ => d2 i hi)) (show RX sto dro fou se r3 from ⟨(d2 73 (by omega)).trans hX.1, (d2 74 (by omega)).trans hX.2.1, (d2 75 (by omega)).trans hX.2.2.1, (d2 76 (by omega)).trans hX.2.2.2.1, (d2 77 (by omega)).trans hX.2.2.2.2.1, (d2 78 (by omega)).trans hX.2.2.2.2.2⟩) hS hF (show 0 ≤ 10 by omega)
    rw [if_neg c] at k1 k3
    refine ⟨0, M', wl, wr, dro', fou + 1, le2, sh2, tk', sr', side', was', r4, by omega, k1, d3.trans k2, k3, fun h2 => ?_, fun h2 => absurd h2 c⟩
    have := npop_mono (k4 h2).1 10 (Nat.le_refl 10)
    omega
end BO2
