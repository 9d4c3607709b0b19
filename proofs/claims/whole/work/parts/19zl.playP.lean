/-! the text played: class and reference -/
section PL
variable {n : Nat} {S T : kF}
theorem fe_end {q : Nat} (hn : n ≤ 120) : fn_X0_firstError_16 (q + 1) (nI n) S (nI 0) (nI n) = some (-1) := by
  show (if nI n ≤ nI n then (if nI 0 = 0 then fn_X0_firstError_91 (nI n) S (-1) else _) else _) = _
  rw [if_pos (Int32.le_refl _), if_pos (show nI 0 = (0 : Int32) from rfl)]
  rfl
theorem fe_foul {i q : Nat} (hn : n ≤ 120) (h1 : 1 ≤ i) (hi : i < n) (hf : foulAt n S i) : fn_X0_firstError_16 (q + 1) (nI n) S (nI 0) (nI i) = fn_X0_firstError_16 q (nI n) S (nI 0) (nI (i + 1)) := by
  show (if nI n ≤ nI i then _ else (fn_X0_isFoulAt (nI n) S (nI i)).bind _) = _
  rw [if_neg (nI_ge hi (by omega)), foul_c hn h1 (by omega), kbs, if_pos hf, if_neg n10, if_pos (show nI 0 = (0 : Int32) from rfl)]
  unfold fn_X0_firstError_73
  rw [nI_1]
theorem numberAt_c {i : Nat} (hn : n ≤ 120) (hi : i < 900) : fn_X0_numberAt (nI n) S (nI i) = some (nmb (sgn n S i) (sgn n S (i + 1))) := by
  unfold fn_X0_numberAt
  rw [signAt_c hn (by omega), kbs, nI_1, signAt_c hn (by omega), kbs]
  rfl
theorem text_sim (hn : n ≤ 120) (hs : ∀ i, i < n → 0 ≤ S i ∧ S i ≤ 255) (hsT : ∀ i, i < n → 0 ≤ T i ∧ T i ≤ 255) (hT : ∀ i, sgn n T i = sgn n S i) : ∀ (N d i q q' q'' : Nat) (o sto dro fou told rolls frm wl wr : Int32) (le sh tk sr se r side was : kF), d ≤ N → i + d = n → 1 ≤ i → (i < n → ¬ foulAt n S i) → d + 6 ≤ q → d + 1 ≤ q' → d + 1 ≤ q'' → SREL sto dro fou told le sh rolls frm tk sr se r →
    (∃ (j : Nat) (o' : Int32) (side' was' r' : kF), j ≤ n ∧ fn_X0_firstError_16 q (nI n) S (nI 0) (nI i) = some (nI j) ∧ fn_X8_readText_31 q'' (nI n) (nI i) o T side was r = some (nI j, nI j, o', side', was', r')) ∨
    (∃ (o' sp' sto' dro' fou' told' wl' wr' rolls' frm' : Int32) (le' sh' tk' sr' side' was' r' : kF), fn_X0_firstError_16 q (nI n) S (nI 0) (nI i) = some (-1) ∧ fn_X0_playOn_4 q' (nI n) S sto dro fou told wl wr le sh rolls frm tk sr se o (nI i) = some (o', sto', dro', fou', told', wl', wr', le', sh', rolls', frm', tk', sr') ∧ fn_X8_readText_31 q'' (nI n) (nI i) o T side was r = some (-1, sp', o', side', was', r') ∧ SREL sto' dro' fou' told' le' sh' rolls' frm' tk' sr' se r') := by
  have hpe : ∀ i, perr n T i = perr n S i := fun i => by unfold perr; simp only [hT]
  intro N
  induction N with
  | zero =>
    intro d i q q' q'' o sto dro fou told rolls frm wl wr le sh tk sr se r side was hd hi h1 hf hq hq' hq'' h
    obtain ⟨q, rfl⟩ : ∃ z, q = z + 1 := ⟨q - 1, by omega⟩
    obtain ⟨q', rfl⟩ : ∃ z, q' = z + 1 := ⟨q' - 1, by omega⟩
    obtain ⟨q'', rfl⟩ : ∃ z, q'' = z + 1 := ⟨q'' - 1, by omega⟩
    have e : i = n := by omega
    subst e
    refine Or.inr ⟨o, nI i, sto, dro, fou, told, wl, wr, rolls, frm, le, sh, tk, sr, side, was, r, fe_end hn, ?_, ?_, h⟩
    · show (if nI i ≤ nI i then _ else _) = _
      rw [if_pos (Int32.le_refl _)]
    · show (if nI i ≤ nI i then _ else _) = _
      rw [if_pos (Int32.le_refl _)]
  | succ N ih =>
    intro d i q q' q'' o sto dro fou told rolls frm wl wr le sh tk sr se r side was hd hi h1 hf hq hq' hq'' h
    obtain ⟨q', rfl⟩ : ∃ z, q' = z + 1 := ⟨q' - 1, by omega⟩
    obtain ⟨q'', rfl⟩ : ∃ z, q'' = z + 1 := ⟨q'' - 1, by omega⟩
    by_cases c : i = n
    · obtain ⟨q, rfl⟩ : ∃ z, q = z + 1 := ⟨q - 1, by omega⟩
      subst c
      refine Or.inr ⟨o, nI i, sto, dro, fou, told, wl, wr, rolls, frm, le, sh, tk, sr, side, was, r, fe_end hn, ?_, ?_, h⟩
      · show (if nI i ≤ nI i then _ else _) = _
        rw [if_pos (Int32.le_refl _)]
      · show (if nI i ≤ nI i then _ else _) = _
        rw [if_pos (Int32.le_refl _)]
    · have hlt : i < n := by omega
      obtain ⟨q, rfl⟩ : ∃ z, q = z + 1 + 5 := ⟨q - 6, by omega⟩
      obtain ⟨f1, f2⟩ := fe_roll (q := q + 1) hn h1 hlt hs (hf hlt)
      have hm0 : fn_X8_readText_31 (q'' + 1) (nI n) (nI i) o T side was r = (fn_X8_readRoll (nI n) (nI i) o T side was r).bind fun o44 => if o44.1 = 0 then some (o44.2.1, o44.2.1, o44.2.2.1, o44.2.2.2.1, o44.2.2.2.2.1, o44.2.2.2.2.2) else fn_X8_readText_31 q'' (nI n) o44.2.1 o44.2.2.1 T o44.2.2.2.1 o44.2.2.2.2.1 o44.2.2.2.2.2 := by
        show (if nI n ≤ nI i then _ else _) = _
        rw [if_neg (nI_ge hlt (by omega))]
      cases hp : perr n S i with
      | some j =>
        obtain ⟨g1, g2⟩ := f1 j hp
        refine Or.inl ⟨j, o, side, was, r, g1, g2, ?_⟩
        rw [hm0, read_bad hn (by omega) hsT ((hpe i).trans hp), kbs, if_pos rfl]
      | none =>
        obtain ⟨g1, g2⟩ := f2 hp
        obtain ⟨v0, v1, v2, v3, v4⟩ := perr_ok hp
        have hb : (0 ≤ nmb (sgn n S i) (sgn n S (i + 1)) ∧ nmb (sgn n S i) (sgn n S (i + 1)) ≤ 40) ∧ (-2 ≤ dr (sgn n S (i + 2)) ∧ dr (sgn n S (i + 2)) ≤ 2) := ⟨rng0 hs v0 v1, dr_ok v2⟩
        have hsp := rng3 (i := i + 3) hs v3 v4
        have hfl : foulAt n S (i + 5) ↔ sgn n S (i + 5) = 102 := ⟨fun z => z.1, fun z => ⟨z, V4_dig v4⟩⟩
        -- where it goes on
        obtain ⟨nx, hnx⟩ : ∃ nx : Nat, nx = if sgn n S (i + 5) = 102 then i + 6 else i + 5 := ⟨_, rfl⟩
        obtain ⟨F, hF⟩ : ∃ F : Int32, F = if sgn n S (i + 5) = 102 then 1 else 0 := ⟨_, rfl⟩
        have hnx1 : nx ≤ n ∧ i + 5 ≤ nx := by
          by_cases c5 : sgn n S (i + 5) = 102
          · have : i + 5 < n := sgn_in (fun e => by rw [e] at c5; exact absurd c5 (by decide))
            rw [hnx, if_pos c5]; omega
          · rw [hnx, if_neg c5]; omega
        have hnxf : nx < n → ¬ foulAt n S nx := by
          intro hl
          by_cases c5 : sgn n S (i + 5) = 102
          · rw [hnx, if_pos c5]
            intro z
            have z2 := z.2.2
            rw [show i + 6 - 1 = i + 5 from rfl, c5] at z2
            exact absurd z2 (by decide)
          · rw [hnx, if_neg c5]
            exact fun z => c5 z.1
        have hnxI : nI (i + 5) + F = nI nx := by
          by_cases c5 : sgn n S (i + 5) = 102
          · rw [hnx, hF, if_pos c5, if_pos c5]; exact nI_1 _
          · rw [hnx, hF, if_neg c5, if_neg c5]; exact Int32.add_zero _
        obtain ⟨qn, hqn, hqe⟩ : ∃ qn, n - nx + 6 ≤ qn ∧ fn_X0_firstError_16 (q + 1 + 5) (nI n) S (nI 0) (nI i) = fn_X0_firstError_16 qn (nI n) S (nI 0) (nI nx) := by
          by_cases c5 : sgn n S (i + 5) = 102
          · have hl5 : i + 5 < n := sgn_in (fun e => by rw [e] at c5; exact absurd c5 (by decide))
            refine ⟨q, by rw [hnx, if_pos c5]; omega, ?_⟩
            rw [g2, fe_foul hn (by omega) hl5 (hfl.mpr c5), hnx, if_pos c5]
          · refine ⟨q + 1, by rw [hnx, if_neg c5]; omega, ?_⟩
            rw [g2, hnx, if_neg c5]
        obtain ⟨a, b, sto1, dro1, fou1, told1, wl1, wr1, rolls1, frm1, le1, sh1, tk1, sr1, side1, was1, r1, k1, k2, k3⟩ := sim_tryRoll (x4 := F) (wl := wl) (wr := wr) (side := side) (was := was) h hb hsp
        obtain ⟨o1, ho1⟩ : ∃ o1 : Int32, o1 = if b = 0 then o + 1 else o := ⟨_, rfl⟩
        have hc1 : fn_X0_playOn_4 (q' + 1) (nI n) S sto dro fou told wl wr le sh rolls frm tk sr se o (nI i) = fn_X0_playOn_4 q' (nI n) S sto1 dro1 fou1 told1 wl1 wr1 le1 sh1 rolls1 frm1 tk1 sr1 se o1 (nI nx) := by
          have h58 : ∀ y : Int32, fn_X0_playOn_58 (fn_X0_playOn_4 q') (nI n) S sto dro fou told wl wr le sh rolls frm tk sr se o y (nmb (sgn n S i) (sgn n S (i + 1))) (dr (sgn n S (i + 2))) (nmb (sgn n S (i + 3)) (sgn n S (i + 4))) F = fn_X0_playOn_4 q' (nI n) S sto1 dro1 fou1 told1 wl1 wr1 le1 sh1 rolls1 frm1 tk1 sr1 se o1 y := by
            intro y
            unfold fn_X0_playOn_58 fn_X0_playOn_76
            rw [k1, kbs, ho1]
            by_cases cb : b = 0
            · rw [if_pos cb, if_pos cb]
            · rw [if_neg cb, if_neg cb]
          show (if nI n ≤ nI i then _ else (fn_X0_numberAt (nI n) S (nI i)).bind _) = _
          rw [if_neg (nI_ge hlt (by omega)), numberAt_c hn (by omega), kbs, show nI i + (2 : Int32) = nI (i + 2) from ix_add i 2, signAt_c hn (by omega), kbs, drift_c hs, kbs, show nI i + (3 : Int32) = nI (i + 3) from ix_add i 3, numberAt_c hn (by omega), kbs, show nI i + (5 : Int32) = nI (i + 5) from ix_add i 5, foul_c hn (by omega) (by omega), kbs]
          by_cases c5 : sgn n S (i + 5) = 102
          · have eF : F = 1 := by rw [hF, if_pos c5]
            rw [if_pos (hfl.mpr c5), if_neg n10, nI_1, ← eF, h58, hnx, if_pos c5]
          · have eF : F = 0 := by rw [hF, if_neg c5]
            rw [if_neg (fun z => c5 (hfl.mp z)), if_pos rfl, ← eF, h58, hnx, if_neg c5]
        have hm1 : fn_X8_readText_31 (q'' + 1) (nI n) (nI i) o T side was r = fn_X8_readText_31 q'' (nI n) (nI nx) o1 T side1 was1 r1 := by
          rw [hm0, read_ok hn (by omega) hsT ((hpe i).trans hp)]
          simp only [hT]
          rw [← hF]
          unfold fn_X8_readRoll_150 fn_X8_readRoll_187
          rcases k2 with ⟨-, rfl, rfl, rfl, rfl, k4⟩ | ⟨-, rfl, k4, k5⟩
          · rw [k4, kbs, if_neg n10, kbs, if_neg n10, hnxI, ho1, if_pos rfl]
          · rw [k4, kbs, if_pos rfl, k5, kbs, kbs, if_neg n10, hnxI, ho1, if_neg n10]
        have hrec := ih (n - nx) nx qn q' q'' o1 sto1 dro1 fou1 told1 rolls1 frm1 wl1 wr1 le1 sh1 tk1 sr1 se r1 side1 was1 (by omega) (by omega) (by omega) hnxf hqn (by omega) (by omega) k3
        rw [hqe, hc1, hm1]
        exact hrec
end PL
