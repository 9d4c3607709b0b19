/-! loading: class and reference -/
theorem sim_text {len msize ref spot out : Int32} {sg mtext trial side was : kF} {sto dro fou told rolls frm wl wr : Int32} {le sh tk sr se : kF} (hX : XRel len sg msize mtext) (h0 : sr 0 = 0) :
    ∃ (e sp' o' : Int32) (side' was' r' : kF), fn_X0_firstError len sg = some e ∧ fn_X8_readText msize spot out mtext side was trial = some (e, sp', o', side', was', r') ∧
      (e = -1 → ∃ (sto' dro' fou' told' wl' wr' rolls' frm' : Int32) (le1 sh1 se1 le' sh' tk' sr' : kF), fn_X6_renew sto dro fou told le sh rolls frm se = some (0, 0, 0, 1023, le1, sh1, 0, 0, se1) ∧ fn_X0_playOn len sg 0 0 0 1023 wl wr le1 sh1 0 0 tk sr se1 = some (o', sto', dro', fou', told', wl', wr', le', sh', rolls', frm', tk', sr') ∧ SREL sto' dro' fou' told' le' sh' rolls' frm' tk' sr' se1 r') := by
  obtain ⟨n, hn, rfl, rfl, hs⟩ := hX
  obtain ⟨le1, sh1, se1, r1, c1, c2, c3⟩ := sim_clear (sto := sto) (dro := dro) (fou := fou) (told := told) (rolls := rolls) (frm := frm) (le := le) (sh := sh) (tk := tk) (se := se) (r := trial) h0
  have hT : ∀ i, sgn n mtext i = sgn n sg i := fun i => sgn_congr (fun i hi => (hs i hi).1.symm) i
  unfold fn_X0_firstError fn_X8_readText
  rw [c2, kbs, show fn_X0_signAt (nI n) sg 0 = _ from signAt_c (i := 0) hn (by omega), kbs, show fn_X8_at (nI n) mtext 0 = _ from at_m (i := 0) hn (by omega), kbs, hT]
  by_cases c : sgn n sg 0 = 80
  · rw [if_pos c, if_pos c]
    have h0n : 0 < n := sgn_in (fun e => by rw [e] at c; exact absurd c (by decide))
    have hf : 1 < n → ¬ foulAt n sg 1 := by
      intro _ z
      have z2 := z.2.2
      rw [show 1 - 1 = 0 from rfl, c] at z2
      exact absurd z2 (by decide)
    have ht := text_sim (S := sg) (T := mtext) hn (fun i hi => (hs i hi).2) (fun i hi => by rw [← (hs i hi).1]; exact (hs i hi).2) hT (n - 1) (n - 1) 1 4096 4096 4096 0 0 0 0 1023 0 0 wl wr le1 sh1 tk sr se1 r1 side was (Nat.le_refl _) (by omega) (by omega) hf (by omega) (by omega) (by omega) c3
    rcases ht with ⟨j, o', side', was', r', hj, t1, t2⟩ | ⟨o', sp', sto', dro', fou', told', wl', wr', rolls', frm', le', sh', tk', sr', side', was', r', t1, t2, t3, t4⟩
    · refine ⟨nI j, nI j, o', side', was', r', t1, t2, fun e => ?_⟩
      exact absurd e (nm1 (b := 0) (nI_pos' (by omega)))
    · exact ⟨-1, sp', o', side', was', r', t1, t3, fun _ => ⟨sto', dro', fou', told', wl', wr', rolls', frm', le1, sh1, se1, le', sh', tk', sr', c1, t2, t4⟩⟩
  · rw [if_neg c, if_neg c]
    exact ⟨0, 0, 0, side, was, r1, rfl, rfl, fun e => absurd e (by decide)⟩
theorem sim_error {len msize ref spot out : Int32} {sg mtext trial side was : kF} (hX : XRel len sg msize mtext) : ∃ (e sp' o' : Int32) (side' was' r' : kF), fn_X7_errorPosition len sg = some e ∧ fn_X8_errorPosition ref msize spot out mtext trial side was = some (e, 0, sp', o', r', side', was') := by
  obtain ⟨e, sp', o', side', was', r', t1, t2, -⟩ := sim_text (ref := ref) (spot := spot) (out := out) (trial := trial) (side := side) (was := was) (sto := 0) (dro := 0) (fou := 0) (told := 0) (rolls := 0) (frm := 0) (wl := 0) (wr := 0) (le := fun _ => 0) (sh := fun _ => 0) (tk := fun _ => 0) (sr := fun _ => 0) (se := fun _ => 0) hX rfl
  refine ⟨e, sp', o', side', was', r', ?_, ?_⟩
  · unfold fn_X7_errorPosition
    rw [t1, kbs]
  · unfold fn_X8_errorPosition
    rw [t2, kbs]
theorem slots_forget {lk : kF} : fn_X5_forget lk = some (upd (upd lk 0 0) 1 0) := by
  unfold fn_X5_forget
  rw [show (4096 : Nat) = 4093 + 1 + 1 + 1 from rfl]
  rfl
theorem sim_load {len msize ref spot out macts sto dro fou told rolls frm wl wr hsz : Int32} {sg mtext now trial isk side was le sh tk sr se lk : kF} (hX : XRel len sg msize mtext) (h : SREL sto dro fou told le sh rolls frm tk sr se now) :
    ∃ (a sp' o' sto' dro' fou' told' wl' wr' rolls' frm' : Int32) (le' sh' tk' sr' se' side' was' r' now' : kF),
      ((fn_X7_load len sg sto dro fou told wl wr le sh rolls frm tk sr se hsz lk = some (2, 0, sto, dro, fou, told, wl, wr, le, sh, rolls, frm, tk, sr, se, hsz, lk) ∧ fn_X8_load ref msize macts spot out mtext now trial isk side was = some (0, 1, macts, sp', o', now, r', isk, side', was')) ∨
       (fn_X7_load len sg sto dro fou told wl wr le sh rolls frm tk sr se hsz lk = some (0, a, sto', dro', fou', told', wl', wr', le', sh', rolls', frm', tk', sr', se', 0, upd (upd lk 0 0) 1 0) ∧ fn_X8_load ref msize macts spot out mtext now trial isk side was = some (a, 0, 0, sp', o', now', r', upd (upd isk 0 0) 1 0, side', was') ∧ SREL sto' dro' fou' told' le' sh' rolls' frm' tk' sr' se' now')) := by
  obtain ⟨e, sp', o', side', was', r', t1, t2, t3⟩ := sim_text (ref := ref) (spot := spot) (out := out) (trial := trial) (side := side) (was := was) (sto := sto) (dro := dro) (fou := fou) (told := told) (rolls := rolls) (frm := frm) (wl := wl) (wr := wr) (le := le) (sh := sh) (tk := tk) (sr := sr) (se := se) hX h.sr0
  unfold fn_X7_load fn_X8_load
  rw [t1, kbs, t2, kbs]
  by_cases c : e = -1
  · obtain ⟨sto', dro', fou', told', wl', wr', rolls', frm', le1, sh1, se1, le', sh', tk', sr', r1, r2, r3⟩ := t3 c
    obtain ⟨now', n1, n2⟩ := copyState_0 (f := r') (g := now)
    refine ⟨o', sp', o', sto', dro', fou', told', wl', wr', rolls', frm', le', sh', tk', sr', se1, side', was', r', now', Or.inr ⟨?_, ?_, r3.row n2⟩⟩
    · rw [if_pos c, r1, kbs]
      unfold fn_X1_forget
      rw [kbs, slots_forget, kbs, r2, kbs]
    · rw [if_pos c]
      unfold fn_X8_load_18
      rw [refused_m, kbs, if_pos (Int32.le_refl _), if_pos rfl, n1, kbs]
      rfl
  · refine ⟨0, sp', o', 0, 0, 0, 0, 0, 0, 0, 0, le, le, le, le, le, side', was', r', now, Or.inl ⟨?_, ?_⟩⟩
    · rw [if_neg c]
    · rw [if_neg c]
      unfold fn_X8_load_18
      rw [refused_m, kbs, if_neg nl1, if_neg n10]
