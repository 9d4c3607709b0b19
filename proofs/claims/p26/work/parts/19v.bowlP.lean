/-! a roll: class and reference -/
def RX (sto dro fou : Int32) (se r : kF) : Prop := r 73 = sto ∧ r 74 = dro ∧ r 75 = fou ∧ r 76 = se 0 ∧ r 77 = se 1 ∧ r 78 = se 2
def SE (se : kF) : Prop := 3 ≤ se 0 ∧ se 1 < 4
def PI (M : Nat) (le sh r : kF) : Prop := M < 1024 ∧ PR le sh r ∧ TBR M r ∧ ∀ k, k < 10 → M.testBit k = true → le k ≠ 4
def SRel (M R Fm : Nat) (T S : Nat → Nat) (sto dro fou told : Int32) (le sh : kF) (rolls frm : Int32) (tk sr se r : kF) : Prop :=
  told = nI M ∧ PI M le sh r ∧ SInv R Fm T S ∧ CSH R Fm T S rolls frm tk sr ∧ MSH R Fm T S r ∧ RX sto dro fou se r ∧ SE se
section BO
variable {R Fm : Nat} {T S : Nat → Nat}
theorem PI.keep {M : Nat} {le sh r r' : kF} (h : PI M le sh r) (hk : ∀ i, i < 30 → r' i = r i) : PI M le sh r' :=
  ⟨h.1, fun k hk2 => ⟨(hk k (by omega)).trans (h.2.1 k hk2).1, (hk (10 + k) (by omega)).trans (h.2.1 k hk2).2.1, (h.2.1 k hk2).2.2⟩, fun k hk2 => (hk (20 + k) (by omega)).trans (h.2.2.1 k hk2), h.2.2.2⟩
theorem MSH.keep {r r' : kF} (h : MSH R Fm T S r) (hR : R ≤ 21) (hk : ∀ i, 30 ≤ i → i < 73 → r' i = r i) : MSH R Fm T S r' :=
  ⟨(hk 51 (by omega) (by omega)).trans h.1, (hk 52 (by omega) (by omega)).trans h.2.1, fun i hi => (hk (30 + i) (by omega) (by omega)).trans (h.2.2.1 i hi), fun f hf hf2 => (hk (53 + f) (by omega) (by omega)).trans (h.2.2.2.1 f hf hf2), fun f hf => (hk (63 + f) (by omega) (by omega)).trans (h.2.2.2.2 f hf)⟩
theorem nin_add (h : SW R Fm T S) {T' : Nat → Nat} (h' : SW (R + 1) Fm T' S) (hs : S Fm ≤ R) (f : Nat) : nin (R + 1) Fm S f = if f = Fm then nin R Fm S f + 1 else nin R Fm S f := by
  by_cases c : f = Fm
  · subst c
    rw [if_pos rfl, (ninF h').1, (ninF h).1]
    omega
  · rw [if_neg c]
    unfold nin nst
    by_cases c2 : f + 1 ≤ Fm
    · rw [if_pos c2, if_pos (by omega), if_pos c2, if_pos (by omega)]
    · rw [if_neg c2, if_neg (by omega), if_neg c2, if_neg (by omega)]
      omega
theorem add_m {r side was : kF} {x4 : Int32} (h : SInv R Fm T S) (hF : Fm < 10) {t : Nat} (ht : t ≤ 10) (hM : MSH R Fm T S r) :
    ∃ r1, fn_X8_rollOn_94 side was r x4 (nI t) = (fn_X8_goOn r1).bind (fun o => some (nI t, side, was, o)) ∧ MSH (R + 1) Fm (tup T R t) S r1 ∧ r1 75 = r 75 + (if x4 = 0 then 0 else 1) ∧ (∀ i, (i < 30 ∨ 73 ≤ i) → i ≠ 75 → r1 i = r i) := by
  have hR := R_le20 h hF
  have hsR := S_leR' h (Nat.le_refl Fm)
  have hna := nin_add h.w (SW_add h hF ht) hsR
  have e109 : ∀ z : Int32, ∃ r1, fn_X8_rollOn_109 side was r (nI t) 75 (r 75) z = (fn_X8_goOn r1).bind (fun o => some (nI t, side, was, o)) ∧ MSH (R + 1) Fm (tup T R t) S r1 ∧ r1 75 = r 75 + z ∧ (∀ i, (i < 30 ∨ 73 ≤ i) → i ≠ 75 → r1 i = r i) := by
    intro z
    obtain ⟨h1, h2, h3, h4, h5⟩ := hM
    refine ⟨upd (upd (upd (upd r 75 (r 75 + z)) (30 + R) (nI t)) 51 (nI (R + 1))) (63 + Fm) (nI (nin R Fm S Fm + 1)), ?_, ⟨?_, ?_, fun i hi => ?_, fun f hf hf2 => ?_, fun f hf => ?_⟩, ?_, fun i hi hi2 => ?_⟩
    · unfold fn_X8_rollOn_109
      rw [if_neg (show ¬ ((75 : Int32) < 0 ∨ 79 ≤ (75 : Int32).toNatClampNeg) from nI_in (c := 75) (N := 79) (by omega) (by omega)), show (75 : Int32).toNatClampNeg = 75 from nI_clamp (n := 75) (by omega), upd_ne (show 51 ≠ 75 by omega), h1, show (30 : Int32) = nI 30 from rfl, ix_add, if_neg (nI_in (N := 79) (by omega) (by omega)), nI_clamp (by omega), upd_ne (show 51 ≠ 30 + R by omega), upd_ne (show 51 ≠ 75 by omega), h1, nI_1]
      unfold fn_X8_rollOn_130
      rw [upd_ne (show 52 ≠ 51 by omega), upd_ne (show 52 ≠ 30 + R by omega), upd_ne (show 52 ≠ 75 by omega), h2, show (63 : Int32) = nI 63 from rfl, ix_add, if_neg (nI_in (N := 79) (by omega) (by omega)), if_neg (nI_in (N := 79) (by omega) (by omega)), nI_clamp (by omega), upd_ne (show 63 + Fm ≠ 51 by omega), upd_ne (show 63 + Fm ≠ 30 + R by omega), upd_ne (show 63 + Fm ≠ 75 by omega), h5 Fm hF, nI_1]
    · rw [upd_ne (by omega), upd_self]
    · rw [upd_ne (by omega), upd_ne (by omega), upd_ne (by omega), upd_ne (by omega), h2]
    · unfold tup
      by_cases c : i = R
      · subst c
        rw [upd_ne (by omega), upd_ne (by omega), upd_self, if_pos rfl]
      · rw [upd_ne (by omega), upd_ne (by omega), upd_ne (by omega), upd_ne (by omega), if_neg c, h3 i (by omega)]
    · rw [upd_ne (by omega), upd_ne (by omega), upd_ne (by omega), upd_ne (by omega), h4 f hf hf2]
    · rw [hna]
      by_cases c : f = Fm
      · subst c
        rw [upd_self, if_pos rfl]
      · rw [upd_ne (by omega), upd_ne (by omega), upd_ne (by omega), upd_ne (by omega), if_neg c, h5 f hf]
    · rw [upd_ne (by omega), upd_ne (by omega), upd_ne (by omega), upd_self]
    · rw [upd_ne (by omega), upd_ne (by omega), upd_ne (by omega), upd_ne (by omega)]
  unfold fn_X8_rollOn_94
  by_cases c : x4 = 0
  · rw [if_pos c, if_pos c]
    exact e109 0
  · rw [if_neg c, if_neg c]
    exact e109 1
theorem PI_rack {le sh r : kF} (hl : ∀ j, j < 10 → le j = 0 ∧ sh j = 0) (hr : ∀ j, j < 10 → r j = 0 ∧ r (10 + j) = 0 ∧ r (20 + j) = 1) : PI 1023 le sh r := by
  refine ⟨by omega, fun k hk => ?_, fun k hk => ?_, fun k hk _ => ?_⟩
  · obtain ⟨a, b⟩ := hl k hk
    obtain ⟨c, d, -⟩ := hr k hk
    rw [a, b, c, d]
    exact ⟨rfl, rfl, Or.inl rfl, Or.inr (Or.inr (Or.inl rfl))⟩
  · rw [(hr k hk).2.2]
    have : Nat.testBit 1023 k = true := by
      rcases (show k = 0 ∨ k = 1 ∨ k = 2 ∨ k = 3 ∨ k = 4 ∨ k = 5 ∨ k = 6 ∨ k = 7 ∨ k = 8 ∨ k = 9 by omega) with e | e | e | e | e | e | e | e | e | e <;> subst e <;> rfl
    rw [this]
    rfl
  · rw [(hl k hk).1]
    decide
theorem PI_again {M N : Nat} {le le' sh r r' : kF} (h : PI M le sh r) (hN : N < 1024) (hl : ∀ j, j < 10 → le' j = if N.testBit j then 0 else 4) (hr : ∀ j, j < 10 → r' j = if N.testBit j then 0 else 4) (hT : TBR N r') (hs : ∀ i, 10 ≤ i → i < 20 → r' i = r i) : PI N le' sh r' := by
  refine ⟨hN, fun k hk => ?_, hT, fun k hk hb => ?_⟩
  · rw [hr k hk, hl k hk, hs (10 + k) (by omega) (by omega)]
    refine ⟨rfl, (h.2.1 k hk).2.1, ?_, (h.2.1 k hk).2.2.2⟩
    cases N.testBit k
    · exact Or.inr (Or.inr (Or.inr (Or.inr rfl)))
    · exact Or.inl rfl
  · rw [hl k hk, hb]
    decide
theorem isOver_t {a : Nat} (ha : a ≤ 10) : ((if a = 10 then (1 : Int32) else 0) = 0) ↔ a ≠ 10 := by
  by_cases c : a = 10
  · rw [if_pos c]; exact ⟨fun e => absurd e (by decide), fun e => absurd c e⟩
  · rw [if_neg c]; exact ⟨fun _ => c, fun _ => rfl⟩
theorem sim_after {M : Nat} {sto dro fou rolls frm x4 wl wr : Int32} {le sh tk sr se r side was : kF} (hP : PI M le sh r) (h : SInv R Fm T S) (hC : CSH R Fm T S rolls frm tk sr) (hM : MSH R Fm T S r) (hX : RX sto dro fou se r) (hS : SE se) (hF : Fm < 10) {t : Nat} (ht : t ≤ 10) :
    ∃ (M' : Nat) (dro' : Int32) (le' sh' tk' sr' r' : kF), fn_X6_bowl_68 sto dro (fou + (if x4 = 0 then 0 else 1)) (nI M) wl wr le sh rolls frm tk sr se (nI t) = some (nI t, sto, dro', fou + (if x4 = 0 then 0 else 1), nI M', wl, wr, le', sh', nI (R + 1), nI (nF R Fm t T S), tk', sr') ∧
      fn_X8_rollOn_94 side was r x4 (nI t) = some (nI t, side, was, r') ∧ SRel M' (R + 1) (nF R Fm t T S) (tup T R t) (nS R Fm t T S) sto dro' (fou + (if x4 = 0 then 0 else 1)) (nI M') le' sh' (nI (R + 1)) (nI (nF R Fm t T S)) tk' sr' se r' := by
  have hR := R_le20 h hF
  obtain ⟨tk', sr', ha, hC'⟩ := add_c h hC hF ht
  obtain ⟨r1, hm, hM1, h75, hk1⟩ := add_m (side := side) (was := was) (x4 := x4) h hF ht hM
  obtain ⟨r2, hg, hM2, hk2⟩ := goOn_m h hF ht hM1
  have hw := wants_c h hF ht hC'
  have hN : SInv (R + 1) (nF R Fm t T S) (tup T R t) (nS R Fm t T S) := SInv_add h hF ht
  have hF2 := hN.1
  have hk : ∀ i, i < 30 → r2 i = r i := fun i hi => (hk2 i (Or.inl hi)).trans (hk1 i (Or.inl hi) (by omega))
  have hP2 : PI M le sh r2 := hP.keep hk
  have hX2 : RX sto dro (fou + (if x4 = 0 then 0 else 1)) se r2 := by
    obtain ⟨a1, a2, a3, a4, a5, a6⟩ := hX
    refine ⟨?_, ?_, ?_, ?_, ?_, ?_⟩
    · rw [hk2 73 (by omega), hk1 73 (by omega) (by omega), a1]
    · rw [hk2 74 (by omega), hk1 74 (by omega) (by omega), a2]
    · rw [hk2 75 (by omega), h75, a3]
    · rw [hk2 76 (by omega), hk1 76 (by omega) (by omega), a4]
    · rw [hk2 77 (by omega), hk1 77 (by omega) (by omega), a5]
    · rw [hk2 78 (by omega), hk1 78 (by omega) (by omega), a6]
  unfold fn_X6_bowl_68
  rw [ha, kbs, hw, kbs, hm, hg]
  rcases (show nkind R Fm t T S = 0 ∨ nkind R Fm t T S = 1 ∨ nkind R Fm t T S = 2 by unfold nkind; split <;> split <;> (try split) <;> omega) with e | e | e
  · have e10 : nF R Fm t T S = 10 := by
      unfold nkind at e
      unfold nF
      split at e
      · rename_i hd
        rw [if_pos hd]
        split at e <;> omega
      · split at e
        · omega
        · split at e <;> omega
    rw [e, if_neg (show ¬ (0 = 1) by omega), if_pos rfl, isOver_c hF2, kbs, if_pos e10, if_neg (by decide)]
    exact ⟨M, dro, le, sh, tk', sr', r2, rfl, rfl, rfl, hP2, hN, hC', hM2, hX2, hS⟩
  · obtain ⟨le', sh', hc, hl⟩ := rack_c (told := nI M) (le := le) (sh := sh)
    obtain ⟨r3, hr3, hl3, hk3⟩ := rack_m (r := r2)
    rw [e, if_pos rfl, if_neg (by decide), hc, kbs]
    refine ⟨1023, dro, le', sh', tk', sr', r3, rfl, ?_, rfl, PI_rack hl hl3, hN, hC', hM2.keep (by omega) (fun i hi _ => hk3 i hi), ?_, hS⟩
    · show ((fn_X8_rack r2).bind fun o => some o).bind _ = _
      rw [hr3, kbs, kbs]
    · obtain ⟨a1, a2, a3, a4, a5, a6⟩ := hX2
      exact ⟨(hk3 73 (by omega)).trans a1, (hk3 74 (by omega)).trans a2, (hk3 75 (by omega)).trans a3, (hk3 76 (by omega)).trans a4, (hk3 77 (by omega)).trans a5, (hk3 78 (by omega)).trans a6⟩
  · have e10 : nF R Fm t T S ≠ 10 := by
      unfold nkind at e
      unfold nF
      split at e
      · split at e <;> omega
      · rename_i hd
        rw [if_neg hd]
        omega
    obtain ⟨le', hc, hl⟩ := setAgain_c (M := M) (le := le) (x := se 2) hP2.1
    obtain ⟨r3, hr3, hT3, hl3, h74, hk3⟩ := setAgain_m (M := M) (le := le) (x := se 2) hP2.2.1 hP2.2.2.1 hP2.2.2.2 hX2.2.2.2.2.2
    rw [e, if_neg (show ¬ (2 = 1) by omega), if_pos rfl, isOver_c hF2, kbs, if_neg e10, if_pos rfl, hc, kbs]
    refine ⟨_, _, le', sh, tk', sr', r3, rfl, ?_, rfl, PI_again hP2 nless_lt hl hl3 hT3 (fun i hi hi2 => hk3 i (by omega) (by omega)), hN, hC', hM2.keep (by omega) (fun i hi hi2 => hk3 i (Or.inr hi) (by omega)), ?_, hS⟩
    · show ((fn_X8_setAgain r2).bind fun o => some o).bind _ = _
      rw [hr3, kbs, kbs]
    · obtain ⟨a1, a2, a3, a4, a5, a6⟩ := hX2
      refine ⟨(hk3 73 (by omega) (by omega)).trans a1, ?_, (hk3 75 (by omega) (by omega)).trans a3, (hk3 76 (by omega) (by omega)).trans a4, (hk3 77 (by omega) (by omega)).trans a5, (hk3 78 (by omega) (by omega)).trans a6⟩
      rw [h74, a2]
theorem was_loop {r side : kF} {x2 x3 x4 x5 : Int32} : ∀ (d k q : Nat) (was : kF), k + d = 30 → d < q → (∀ j, j < k → was j = r j) → ∃ was', (∀ j, j < 30 → was' j = r j) ∧ fn_X8_rollOn_9 q side was r x2 x3 x4 x5 (nI k) = fn_X8_rollOn_9 1 side was' r x2 x3 x4 x5 (nI 30) := by
  intro d
  induction d with
  | zero =>
    intro k q was hk hq hw
    obtain ⟨q, rfl⟩ : ∃ z, q = z + 1 := ⟨q - 1, by omega⟩
    have hk : k = 30 := by omega
    subst hk
    exact ⟨was, hw, rfl⟩
  | succ d ih =>
    intro k q was hk hq hw
    obtain ⟨q, rfl⟩ : ∃ z, q = z + 1 := ⟨q - 1, by omega⟩
    obtain ⟨was', h1, h2⟩ := ih (k + 1) q (upd was k (r k)) (by omega) (by omega) (fun j hj => by
      by_cases c : j = k
      · subst c; exact upd_self
      · rw [upd_ne c]; exact hw j (by omega))
    refine ⟨was', h1, ?_⟩
    rw [← h2]
    show (if _ then _ else _) = _
    rw [if_neg (show ¬ (30 : Int32) ≤ nI k from ix_ge (n := 30) (by omega) (by omega)), if_neg (nI_in (N := 79) (by omega) (by omega)), if_neg (nI_in (N := 30) (by omega) (by omega)), nI_clamp (by omega), nI_1]
theorem back_loop {was side r0 : kF} {x4 x6 : Int32} (hx : x4 ≠ 0) : ∀ (d k q : Nat) (r : kF), k + d = 30 → d < q → (∀ j, j < k → r j = was j) → (∀ i, 30 ≤ i → r i = r0 i) → ∃ r', (∀ j, j < 30 → r' j = was j) ∧ (∀ i, 30 ≤ i → r' i = r0 i) ∧ fn_X8_rollOn_65 q side was r x4 x6 (nI k) = fn_X8_rollOn_94 side was r' x4 x6 := by
  intro d
  induction d with
  | zero =>
    intro k q r hk hq hw hr
    obtain ⟨q, rfl⟩ : ∃ z, q = z + 1 := ⟨q - 1, by omega⟩
    have hk : k = 30 := by omega
    subst hk
    exact ⟨r, hw, hr, rfl⟩
  | succ d ih =>
    intro k q r hk hq hw hr
    obtain ⟨q, rfl⟩ : ∃ z, q = z + 1 := ⟨q - 1, by omega⟩
    obtain ⟨r', h1, h1b, h2⟩ := ih (k + 1) q (upd r k (was k)) (by omega) (by omega) (fun j hj => by
      by_cases c : j = k
      · subst c; exact upd_self
      · rw [upd_ne c]; exact hw j (by omega)) (fun i hi => by rw [upd_ne (by omega)]; exact hr i hi)
    refine ⟨r', h1, h1b, ?_⟩
    rw [← h2]
    show (if _ then _ else _) = _
    rw [if_neg (show ¬ (30 : Int32) ≤ nI k from ix_ge (n := 30) (by omega) (by omega)), if_neg hx, if_neg (nI_in (N := 30) (by omega) (by omega)), if_neg (nI_in (N := 79) (by omega) (by omega)), nI_clamp (by omega), nI_1]
def SREL (sto dro fou told : Int32) (le sh : kF) (rolls frm : Int32) (tk sr se r : kF) : Prop := ∃ (M R Fm : Nat) (T S : Nat → Nat), SRel M R Fm T S sto dro fou told le sh rolls frm tk sr se r
/-- the roll itself -/
def cRoll (sto dro fou told wl wr : Int32) (le sh : kF) (rolls frm : Int32) (tk sr se : kF) (x1 x2 x4 : Int32) : Option (Int32 × Int32 × Int32 × Int32 × Int32 × Int32 × Int32 × kF × kF × Int32 × Int32 × kF × kF) :=
  if x4 = 0 then (fn_X2_meetBall wl wr le sh x1 x2).bind fun o47 => (fn_X2_tell told o47.2.2.1 (se 1)).bind fun o60 => (fn_J6_bitCount_0f7a4 o60.1).bind fun o63 => fn_X6_bowl_68 sto dro fou o60.2 o47.1 o47.2.1 o47.2.2.1 o47.2.2.2 rolls frm tk sr se o63 else fn_X6_bowl_68 sto dro (fou + (1 : Int32)) told wl wr le sh rolls frm tk sr se (0 : Int32)
theorem sim_roll {M : Nat} {sto dro fou told rolls frm x1 x2 x4 wl wr : Int32} {le sh tk sr se r side was : kF} (h : SRel M R Fm T S sto dro fou told le sh rolls frm tk sr se r) (hF : Fm < 10) :
    ∃ (t M' F' : Nat) (S' : Nat → Nat) (wl' wr' dro' fou' : Int32) (le' sh' tk' sr' side' was' r' : kF), t ≤ 10 ∧ cRoll sto dro fou told wl wr le sh rolls frm tk sr se x1 x2 x4 = some (nI t, sto, dro', fou', nI M', wl', wr', le', sh', nI (R + 1), nI F', tk', sr') ∧
      fn_X8_rollOn side was r x1 x2 x4 = some (nI t, side', was', r') ∧ SRel M' (R + 1) F' (tup T R t) S' sto dro' fou' (nI M') le' sh' (nI (R + 1)) (nI F') tk' sr' se r' := by
  obtain ⟨rfl, hP, hI, hC, hM, hX, hS⟩ := h
  have hR := R_le20 hI hF
  unfold fn_X8_rollOn
  rw [told_m hP.2.2.1, kbs]
  obtain ⟨was', hw, e1⟩ := was_loop (r := r) (side := side) (x2 := x1) (x3 := x2) (x4 := x4) (x5 := nI (npop M 10)) 30 0 4096 was (by omega) (by omega) (fun j hj => absurd hj (Nat.not_lt_zero j))
  obtain ⟨wl', wr', le', sh', side', r', b1, b2, b3, b4, b5⟩ := sim_ball (wl := wl) (wr := wr) (B := x1) (D := x2) (side := side) hP.2.1
  have hT' : TBR M r' := fun k hk => (b5 (20 + k) (by omega)).trans (hP.2.2.1 k hk)
  obtain ⟨r2, t1, t2, t3, t4⟩ := sim_tell (M := M) (le := le') (sh := sh') (r := r') (x := se 1) hP.1 hS.2 b3 hT' ((b5 77 (by omega)).trans hX.2.2.2.2.1)
  have hk30 : ∀ i, 30 ≤ i → r2 i = r i := fun i hi => (t4 i (Or.inr hi)).trans (b5 i (by omega))
  rw [show (0 : Int32) = nI 0 from rfl, e1]
  show ∃ (t M' F' : Nat) (S' : Nat → Nat) (wl' wr' dro' fou' : Int32) (le' sh' tk' sr' side' was' r' : kF), t ≤ 10 ∧ cRoll _ _ _ _ _ _ _ _ _ _ _ _ _ _ _ _ = _ ∧ (if (30 : Int32) ≤ nI 30 then (fn_X8_ball side r x1 x2).bind _ else _) = _ ∧ _
  rw [if_pos (show (30 : Int32) ≤ nI 30 from Int32.le_refl _), b2, kbs, t2, kbs]
  unfold cRoll
  by_cases c : x4 = 0
  · rw [if_pos c, if_pos c, b1, kbs, t1, kbs, bitCount_eq (and_lt hP.1), kbs, told_m t3, kbs, pk_sub (show npop (nless M (nmore le' (se 1))) 10 ≤ npop M 10 by have := npop_split (M := M) (N := nmore le' (se 1)) 10 (by omega); omega), show npop M 10 - npop (nless M (nmore le' (se 1))) 10 = npop (M &&& nmore le' (se 1)) 10 by have := npop_split (M := M) (N := nmore le' (se 1)) 10 (by omega); omega]
    have hP2 : PI (nless M (nmore le' (se 1))) le' sh' r2 := by
      refine ⟨nless_lt, fun k hk => ?_, t3, fun k hk hb => ?_⟩
      · obtain ⟨c1, c2, c3, c4⟩ := b3 k hk
        exact ⟨(t4 k (by omega)).trans c1, (t4 (10 + k) (by omega)).trans c2, c3, c4⟩
      · rw [nless_bit hk, nmore_bit hk] at hb
        intro e
        rw [e] at hb
        have h4 : ¬ (4 : Int32) ≤ se 1 := Int32.not_le.mpr hS.2
        simp [h4] at hb
    obtain ⟨M', dro', le2, sh2, tk', sr', r3, k1, k2, k3⟩ := sim_after (x4 := x4) (wl := wl') (wr := wr') (side := side') (was := was') hP2 hI hC (hM.keep (by omega) (fun i hi _ => hk30 i hi)) (show RX sto dro fou se r2 from ⟨(hk30 73 (by omega)).trans hX.1, (hk30 74 (by omega)).trans hX.2.1, (hk30 75 (by omega)).trans hX.2.2.1, (hk30 76 (by omega)).trans hX.2.2.2.1, (hk30 77 (by omega)).trans hX.2.2.2.2.1, (hk30 78 (by omega)).trans hX.2.2.2.2.2⟩) hS hF (npop_le (M &&& nmore le' (se 1)) 10)
    rw [if_pos c, Int32.add_zero] at k1 k3
    refine ⟨_, M', _, _, wl', wr', dro', fou, le2, sh2, tk', sr', side', was', r3, npop_le _ 10, k1, ?_, k3⟩
    rw [← k2]
    show fn_X8_rollOn_65 4096 _ _ _ _ _ _ = _
    show (if (30 : Int32) ≤ nI 0 then _ else _) = _
    rw [if_neg (by decide), if_pos c]
  · rw [if_neg c, if_neg c]
    obtain ⟨r3, d1, d2, d3⟩ := back_loop (was := was') (side := side') (r0 := r) (x4 := x4) (x6 := 0) c 30 0 4096 r2 (by omega) (by omega) (fun j hj => absurd hj (Nat.not_lt_zero j)) hk30
    obtain ⟨M', dro', le2, sh2, tk', sr', r4, k1, k2, k3⟩ := sim_after (x4 := x4) (wl := wl) (wr := wr) (side := side') (was := was') (hP.keep (fun i hi => (d1 i hi).trans (hw i hi))) hI hC (hM.keep (by omega) (fun i hi _ => d2 i hi)) (show RX sto dro fou se r3 from ⟨(d2 73 (by omega)).trans hX.1, (d2 74 (by omega)).trans hX.2.1, (d2 75 (by omega)).trans hX.2.2.1, (d2 76 (by omega)).trans hX.2.2.2.1, (d2 77 (by omega)).trans hX.2.2.2.2.1, (d2 78 (by omega)).trans hX.2.2.2.2.2⟩) hS hF (show 0 ≤ 10 by omega)
    rw [if_neg c] at k1 k3
    exact ⟨0, M', _, _, wl, wr, dro', fou + 1, le2, sh2, tk', sr', side', was', r4, by omega, k1, d3.trans k2, k3⟩
theorem stops_c {se : kF} {x : Int32} (hx : ¬ x < 1) : fn_X6_stops se x = some (if (90 : Int32) / x ≤ se 0 then 0 else 1) := by
  have h0 : x ≠ 0 := fun e => by subst e; exact hx (by decide)
  unfold fn_X6_stops
  rw [if_neg hx, if_neg h0]
  by_cases c : (90 : Int32) / x ≤ se 0
  · rw [if_pos c, if_pos c]; rfl
  · rw [if_neg c, if_neg c]; rfl
theorem stops_m {r : kF} {x : Int32} (hx : ¬ x < 1) : fn_X8_isStopped r x = some (if (90 : Int32) / x ≤ r 76 then 0 else 1) := by
  have h0 : x ≠ 0 := fun e => by subst e; exact hx (by decide)
  unfold fn_X8_isStopped
  rw [if_neg h0]
  by_cases c : (90 : Int32) / x ≤ r 76
  · rw [if_pos c, if_pos c]; rfl
  · rw [if_neg c, if_neg c]; rfl
theorem bowl_eq {sto dro fou told rolls frm x1 x2 x3 x4 wl wr : Int32} {le sh tk sr se : kF} (hx : ¬ x3 < 1) : fn_X6_bowl sto dro fou told wl wr le sh rolls frm tk sr se x1 x2 x3 x4 = if (90 : Int32) / x3 ≤ se 0 then cRoll sto dro fou told wl wr le sh rolls frm tk sr se x1 x2 x4 else some (-1, sto + 1, dro, fou, told, wl, wr, le, sh, rolls, frm, tk, sr) := by
  unfold fn_X6_bowl
  rw [stops_c hx, kbs]
  by_cases c : (90 : Int32) / x3 ≤ se 0
  · rw [if_pos c, if_pos c, if_pos rfl]
    rfl
  · rw [if_neg c, if_neg c, if_neg (by decide)]
theorem SREL.over {sto dro fou told rolls frm : Int32} {le sh tk sr se r : kF} (h : SREL sto dro fou told le sh rolls frm tk sr se r) : ∃ a : Nat, a ≤ 10 ∧ frm = nI a ∧ r 52 = nI a := by
  obtain ⟨M, R, Fm, T, S, -, -, hI, hC, hM, -, -⟩ := h
  exact ⟨Fm, hI.1, hC.2.1, hM.2.1⟩
/-- one roll, wherever the game is not over -/
theorem sim_bowl {sto dro fou told rolls frm x1 x2 x3 x4 wl wr : Int32} {le sh tk sr se r side was : kF} (h : SREL sto dro fou told le sh rolls frm tk sr se r) (hF : frm < 10) (hx : ¬ x3 < 1) :
    ∃ (a sto' dro' fou' told' wl' wr' rolls' frm' : Int32) (le' sh' tk' sr' side' was' r' : kF), fn_X6_bowl sto dro fou told wl wr le sh rolls frm tk sr se x1 x2 x3 x4 = some (a, sto', dro', fou', told', wl', wr', le', sh', rolls', frm', tk', sr') ∧
      fn_X8_throwOn side was r x1 x2 x3 x4 = some (a, side', was', r') ∧ SREL sto' dro' fou' told' le' sh' rolls' frm' tk' sr' se r' := by
  obtain ⟨M, R, Fm, T, S, h⟩ := h
  have h0 := h
  obtain ⟨-, hP, hI, hC, hM, hX, hS⟩ := h0
  have hF2 : Fm < 10 := by
    have := hI.1
    rw [hC.2.1] at hF
    rcases Nat.lt_or_ge Fm 10 with z | z
    · exact z
    · exact absurd hF (nI_nlt (b := 10) z (by omega))
  unfold fn_X8_throwOn
  rw [bowl_eq hx, stops_m hx, kbs, hX.2.2.2.1]
  by_cases c : (90 : Int32) / x3 ≤ se 0
  · obtain ⟨t, M', F', S', wl', wr', dro', fou', le', sh', tk', sr', side', was', r', -, k1, k2, k3⟩ := sim_roll (x1 := x1) (x2 := x2) (x4 := x4) (wl := wl) (wr := wr) (side := side) (was := was) h hF2
    rw [if_pos c, if_pos c, if_pos rfl, k1, k2, kbs]
    exact ⟨_, _, _, _, _, _, _, _, _, _, _, _, _, _, _, _, rfl, rfl, M', _, F', _, S', k3⟩
  · rw [if_neg c, if_neg c, if_neg (by decide)]
    obtain ⟨a1, a2, a3, a4, a5, a6⟩ := hX
    refine ⟨_, _, _, _, _, _, _, _, _, _, _, _, _, _, _, _, rfl, rfl, M, R, Fm, T, S, h.1, hP.keep (fun i hi => upd_ne (by omega)), hI, hC, hM.keep (R_le hI) (fun i hi hi2 => upd_ne (by omega)), ⟨by rw [upd_self, a1], (upd_ne (by omega)).trans a2, (upd_ne (by omega)).trans a3, (upd_ne (by omega)).trans a4, (upd_ne (by omega)).trans a5, (upd_ne (by omega)).trans a6⟩, hS⟩
end BO
