/-! the whole ball; telling, setting again, racks: class and reference -/
theorem push_last_loop {K : Int32 → Int32 → kF → kF → Int32 → Int32 → Int32 → Int32 → Int32 → Option (Int32 × Int32 × kF × kF)} {wl wr : Int32} {le sh : kF} {B D pushed : Int32} :
    ∀ (d k q : Nat), k + d = 10 → 6 ≤ k → d < q → fn_X2_meetBall_75 K q wl wr le sh B D pushed (nI 3) (nI 10) (nI k) = K wl wr le sh B D pushed (nI 10) (nI 4) := by
  intro d
  induction d with
  | zero =>
    intro k q hk hk6 hq
    obtain ⟨q, rfl⟩ : ∃ z, q = z + 1 := ⟨q - 1, by omega⟩
    have hk : k = 10 := by omega
    subst hk
    show (if _ then _ else _) = _
    rw [if_pos (Int32.le_refl _), nI_1]
  | succ d ih =>
    intro k q hk hk6 hq
    obtain ⟨q, rfl⟩ : ∃ z, q = z + 1 := ⟨q - 1, by omega⟩
    have e75 : fn_X2_meetBall_75 K (q + 1) wl wr le sh B D pushed (nI 3) (nI 10) (nI k) = (fn_X2_pushBehind wl wr le (nI k) (nI k + nI 3 + 1)).bind fun o92 => fn_X2_meetBall_75 K q o92.1 o92.2.1 o92.2.2 sh B D pushed (nI 3) (nI 10) (nI k + 1) := by
      show (if _ then _ else _) = _
      rw [if_neg (nI_ge (by omega) (by omega))]
    rw [e75, ix_add, nI_1, nI_1, show k + 3 + 1 = k + 4 from rfl, push_last hk6 (by omega)]
    simp only [kbs]
    exact ih (k + 1) q (by omega) (by omega) (by omega)
theorem nfirst_s {row : Nat} (h : row < 4) : nfirst row + row + 1 = nfirst (row + 1) := by
  have : ∀ r : Fin 4, nfirst r.val + r.val + 1 = nfirst (r.val + 1) := by decide
  exact this ⟨row, h⟩
theorem sim_rows {le0 : kF} {B D : Int32} : ∀ (e row q q' : Nat) (pushed wl wr : Int32) (le sh r side : kF), row + e = 4 → e < q → e < q' → PR le sh r → WR le0 wl wr le side →
    ∃ (wl' wr' : Int32) (le' sh' side' r' : kF), fn_X2_meetBall_18 q wl wr le sh B D pushed (nI (nfirst row)) (nI row) = some (wl', wr', le', sh') ∧ fn_X8_ball_30 q' side r B D pushed (nI row) = some (side', r') ∧ PR le' sh' r' ∧ WR le0 wl' wr' le' side' ∧ Keep 20 r r' := by
  intro e
  induction e with
  | zero =>
    intro row q q' pushed wl wr le sh r side hrow hq hq' hP hW
    obtain ⟨q, rfl⟩ : ∃ z, q = z + 1 := ⟨q - 1, by omega⟩
    obtain ⟨q', rfl⟩ : ∃ z, q' = z + 1 := ⟨q' - 1, by omega⟩
    have hrow : row = 4 := by omega
    subst hrow
    exact ⟨wl, wr, le, sh, side, r, rfl, rfl, hP, hW, Keep.refl⟩
  | succ e ih =>
    intro row q q' pushed wl wr le sh r side hrow hq hq' hP hW
    obtain ⟨q, rfl⟩ : ∃ z, q = z + 1 := ⟨q - 1, by omega⟩
    obtain ⟨q', rfl⟩ : ∃ z, q' = z + 1 := ⟨q' - 1, by omega⟩
    have hr4 : row < 4 := by omega
    have hge : ¬ (4 : Int32) ≤ nI row := ix_ge (n := 4) hr4 (by omega)
    have e18 : fn_X2_meetBall_18 (q + 1) wl wr le sh B D pushed (nI (nfirst row)) (nI row) = fn_X2_meetBall_47 (fn_X2_meetBall_18 q) 4096 wl wr le sh B D pushed (nI (nfirst row)) (nI row) (B + D * nI row + pushed) (nI (nfirst row) + nI row + 1) (nI (nfirst row)) := by
      show (if _ then _ else _) = _
      rw [if_neg hge]
    have e30 : fn_X8_ball_30 (q' + 1) side r B D pushed (nI row) = fn_X8_ball_54 (fn_X8_ball_30 q') 4096 side r B D pushed (nI row) (B + D * nI row + pushed) (nI (nfirst row)) := by
      show (if _ then _ else _) = _
      rw [if_neg hge, firstOf_m (by omega), kbs]
    rw [e18, e30, ix_add, nI_1, nfirst_s hr4]
    have hmon : nfirst row ≤ nfirst (row + 1) ∧ nfirst (row + 1) ≤ 10 := by
      have : ∀ r : Fin 4, nfirst r.val ≤ nfirst (r.val + 1) ∧ nfirst (r.val + 1) ≤ 10 := by decide
      exact this ⟨row, hr4⟩
    obtain ⟨pushed', wl1, wr1, le1, sh1, side1, r1, f1, f2, f3, f4, f5⟩ := sim_row (K := fn_X2_meetBall_18 q) (K' := fn_X8_ball_30 q') (p := B + D * nI row + pushed) (B := B) (D := D) (F := nI (nfirst row)) hr4 (nfirst (row + 1) - nfirst row) (nfirst row) 4096 4096 pushed wl wr le sh r side (by omega) (by omega) (by omega) hP hW
    rw [f1, f2]
    by_cases h3 : row < 3
    · obtain ⟨wl2, wr2, le2, side2, r2, g1, g2, g3, g4, g5⟩ := sim_rowP (K := fn_X2_meetBall_18 q) (K' := fn_X8_ball_30 q') (B := B) (D := D) (pushed := pushed') (sh := sh1) h3 (nfirst (row + 1) - nfirst row) (nfirst row) 4096 4096 wl1 wr1 le1 r1 side1 (by omega) (by omega) (by omega) (by omega) f3 f4
      rw [g1, g2]
      obtain ⟨wl3, wr3, le3, sh3, side3, r3, h1, h2, h5, h6, h7⟩ := ih (row + 1) q q' pushed' wl2 wr2 le2 sh1 r2 side2 (by omega) (by omega) (by omega) g3 g4
      exact ⟨wl3, wr3, le3, sh3, side3, r3, h1, h2, h5, h6, (f5.trans g5).trans h7⟩
    · have h33 : row = 3 := by omega
      subst h33
      have g1 := push_last_loop (K := fn_X2_meetBall_18 q) (wl := wl1) (wr := wr1) (le := le1) (sh := sh1) (B := B) (D := D) (pushed := pushed') 4 6 4096 (by omega) (by omega) (by omega)
      have g2 : fn_X8_ball_103 (fn_X8_ball_30 q') 4096 side1 r1 B D pushed' (nI 3) (nI (nfirst 3)) = fn_X8_ball_30 q' side1 r1 B D pushed' (nI 4) := by
        show (fn_X8_firstOf (nI 3 + 1)).bind _ = _
        rw [nI_1, firstOf_m (by omega), kbs, if_neg (by decide), if_pos (by decide)]
        unfold fn_X8_ball_134
        rw [nI_1]
      rw [g2]
      have g1' : fn_X2_meetBall_75 (fn_X2_meetBall_18 q) 4096 wl1 wr1 le1 sh1 B D pushed' (nI 3) (nI (nfirst (3 + 1))) (nI (nfirst 3)) = fn_X2_meetBall_18 q wl1 wr1 le1 sh1 B D pushed' (nI 10) (nI 4) := g1
      rw [g1']
      obtain ⟨wl3, wr3, le3, sh3, side3, r3, h1, h2, h5, h6, h7⟩ := ih 4 q q' pushed' wl1 wr1 le1 sh1 r1 side1 (by omega) (by omega) (by omega) f3 f4
      exact ⟨wl3, wr3, le3, sh3, side3, r3, h1, h2, h5, h6, f5.trans h7⟩
theorem side_zero {r : kF} {B D : Int32} : ∀ (d k q : Nat) (side : kF), k + d = 10 → d < q → (∀ j, j < k → side j = 0) → ∃ side', (∀ j, j < 10 → side' j = 0) ∧ fn_X8_ball_3 q side r B D (nI k) = fn_X8_ball_30 4096 side' r B D 0 0 := by
  intro d
  induction d with
  | zero =>
    intro k q side hk hq hs
    obtain ⟨q, rfl⟩ : ∃ z, q = z + 1 := ⟨q - 1, by omega⟩
    have hk : k = 10 := by omega
    subst hk
    refine ⟨side, hs, ?_⟩
    show (if _ then _ else _) = _
    rw [if_pos (show (10 : Int32) ≤ nI 10 from Int32.le_refl _)]
  | succ d ih =>
    intro k q side hk hq hs
    obtain ⟨q, rfl⟩ : ∃ z, q = z + 1 := ⟨q - 1, by omega⟩
    have e3 : fn_X8_ball_3 (q + 1) side r B D (nI k) = fn_X8_ball_3 q (upd side k 0) r B D (nI k + 1) := by
      show (if _ then _ else _) = _
      rw [if_neg (show ¬ (10 : Int32) ≤ nI k from ix_ge (n := 10) (by omega) (by omega)), if_neg (nI_in (N := 10) (by omega) (by omega)), nI_clamp (by omega)]
    rw [e3, nI_1]
    refine ih (k + 1) q (upd side k 0) (by omega) (by omega) (fun j hj => ?_)
    by_cases e : j = k
    · subst e; exact upd_self
    · rw [upd_ne e]; exact hs j (by omega)
/-- a ball, alike in both -/
theorem sim_ball {wl wr B D : Int32} {le sh r side : kF} (hP : PR le sh r) :
    ∃ (wl' wr' : Int32) (le' sh' side' r' : kF), fn_X2_meetBall wl wr le sh B D = some (wl', wr', le', sh') ∧ fn_X8_ball side r B D = some (side', r') ∧ PR le' sh' r' ∧ WR le wl' wr' le' side' ∧ Keep 20 r r' := by
  obtain ⟨side0, hs, e0⟩ := side_zero (r := r) (B := B) (D := D) 10 0 4096 side (by omega) (by omega) (fun j hj => absurd hj (Nat.not_lt_zero j))
  have hW : WR le 0 0 le side0 := ⟨0, 0, rfl, rfl, by omega, by omega, fun k hk => ⟨by rw [hs k hk]; simp; rfl, by simp [WP]⟩⟩
  obtain ⟨wl', wr', le', sh', side', r', h1, h2, h3, h4, h5⟩ := sim_rows (le0 := le) (B := B) (D := D) 4 0 4096 4096 0 0 0 le sh r side0 (by omega) (by omega) (by omega) hP hW
  exact ⟨wl', wr', le', sh', side', r', h1, e0.trans h2, h3, h4, h5⟩
/-- the pins that lean by more -/
def nmore (le : kF) (x : Int32) : Nat := nmask (fun k => !decide (le k ≤ x)) 10
theorem moreThan_loop {le : kF} {x : Int32} : ∀ (d k q : Nat), k + d = 10 → d < q → fn_X2_moreThan_4 q le x (nI (nmask (fun k => !decide (le k ≤ x)) k)) (nI k) = some (nI (nmore le x)) := by
  intro d
  induction d with
  | zero =>
    intro k q hk hq
    obtain ⟨q, rfl⟩ : ∃ z, q = z + 1 := ⟨q - 1, by omega⟩
    have hk : k = 10 := by omega
    subst hk
    rfl
  | succ d ih =>
    intro k q hk hq
    obtain ⟨q, rfl⟩ : ∃ z, q = z + 1 := ⟨q - 1, by omega⟩
    show (if _ then _ else _) = _
    rw [if_neg (show ¬ (10 : Int32) ≤ nI k from ix_ge (n := 10) (by omega) (by omega)), if_neg (nI_in (N := 10) (by omega) (by omega)), nI_clamp (by omega), n_shl1 (by omega), n_or]
    unfold fn_X2_moreThan_26
    rw [nI_1]
    have h := ih (k + 1) q (by omega) (by omega)
    rw [nmask] at h
    by_cases c : le k ≤ x
    · rw [if_pos c]
      simp only [decide_eq_true c, Bool.not_true] at h
      simpa using h
    · rw [if_neg c]
      simp only [decide_eq_false c, Bool.not_false, if_true] at h
      exact h
theorem moreThan_eq {le : kF} {x : Int32} : fn_X2_moreThan le x = some (nI (nmore le x)) := moreThan_loop 10 0 4096 (by omega) (by omega)
theorem nmore_lt {le : kF} {x : Int32} : nmore le x < 1024 := nmask_lt _ 10
theorem nmore_bit {le : kF} {x : Int32} {k : Nat} (hk : k < 10) : (nmore le x).testBit k = !decide (le k ≤ x) := by
  unfold nmore
  rw [nmask_bit]
  simp [hk]
/-- what is left of a mask -/
def nless (M N : Nat) : Nat := nmask (fun k => M.testBit k && !N.testBit k) 10
theorem nless_lt {M N : Nat} : nless M N < 1024 := nmask_lt _ 10
theorem nless_bit {M N k : Nat} (hk : k < 10) : (nless M N).testBit k = (M.testBit k && !N.testBit k) := by
  unfold nless
  rw [nmask_bit]
  simp [hk]
theorem and_lt {M N : Nat} (hM : M < 1024) : M &&& N < 1024 := Nat.lt_of_le_of_lt Nat.and_le_left hM
theorem nless_eq {M N : Nat} (hM : M < 1024) (hN : N < 1024) : nI M &&& (nI N ^^^ (-1)) = nI (nless M N) := by
  rw [n_m1, n_xor, n_and]
  congr 1
  refine mask_ext (and_lt hM) nless_lt (fun k hk => ?_)
  rw [nless_bit hk, Nat.testBit_and, Nat.testBit_xor]
  have : (4294967295 : Nat).testBit k = true := by
    have : ∀ k : Fin 10, (4294967295 : Nat).testBit k.val = true := by decide +kernel
    exact this ⟨k, hk⟩
  rw [this]
  simp
theorem tell_c {M : Nat} {le : kF} {x : Int32} (hM : M < 1024) : fn_X2_tell (nI M) le x = some (nI (M &&& nmore le x), nI (nless M (nmore le x))) := by
  unfold fn_X2_tell
  rw [moreThan_eq, kbs, n_and, nless_eq hM (and_lt hM)]
  congr 3
  refine mask_ext nless_lt nless_lt (fun k hk => ?_)
  rw [nless_bit hk, nless_bit hk, Nat.testBit_and]
  cases M.testBit k <;> simp
/-- what the row says of the pins told as standing -/
def TBR (M : Nat) (r : kF) : Prop := ∀ k, k < 10 → r (20 + k) = nI (if M.testBit k then 1 else 0)
theorem tb_1 {b : Bool} : (nI (if b then 1 else 0) = 1) ↔ b = true := by cases b <;> decide
theorem told_loop {M : Nat} {r : kF} (hT : TBR M r) : ∀ (d k q : Nat), k + d = 10 → d < q → fn_X8_toldOf_4 q r (nI (npop M k)) (nI k) = some (nI (npop M 10)) := by
  intro d
  induction d with
  | zero =>
    intro k q hk hq
    obtain ⟨q, rfl⟩ : ∃ z, q = z + 1 := ⟨q - 1, by omega⟩
    have hk : k = 10 := by omega
    subst hk
    rfl
  | succ d ih =>
    intro k q hk hq
    obtain ⟨q, rfl⟩ : ∃ z, q = z + 1 := ⟨q - 1, by omega⟩
    show (if _ then _ else _) = _
    rw [if_neg (show ¬ (10 : Int32) ≤ nI k from ix_ge (n := 10) (by omega) (by omega)), show (20 : Int32) = nI 20 from rfl, ix_add, if_neg (nI_in (N := 79) (by omega) (by omega)), nI_clamp (by omega), hT k (by omega), ix_add, nI_1]
    exact ih (k + 1) q (by omega) (by omega)
theorem told_m {M : Nat} {r : kF} (hT : TBR M r) : fn_X8_toldOf r = some (nI (npop M 10)) := told_loop hT 10 0 4096 (by omega) (by omega)
theorem tell_loop {M : Nat} {le r0 : kF} {x : Int32} (hx : x < 4) : ∀ (d k q : Nat) (r : kF), k + d = 10 → d < q → (∀ j, j < 10 → r j = le j) → r 77 = x → (∀ j, k ≤ j → j < 10 → r (20 + j) = nI (if M.testBit j then 1 else 0)) → (∀ j, j < k → r (20 + j) = nI (if (nless M (nmore le x)).testBit j then 1 else 0)) → (∀ i, (i < 20 ∨ 30 ≤ i) → r i = r0 i) →
    ∃ r', fn_X8_tell_2 q r (nI k) = some r' ∧ TBR (nless M (nmore le x)) r' ∧ ∀ i, (i < 20 ∨ 30 ≤ i) → r' i = r0 i := by
  intro d
  induction d with
  | zero =>
    intro k q r hk hq h1 h2 h3 h4 h5
    obtain ⟨q, rfl⟩ : ∃ z, q = z + 1 := ⟨q - 1, by omega⟩
    have hk : k = 10 := by omega
    subst hk
    exact ⟨r, rfl, h4, h5⟩
  | succ d ih =>
    intro k q r hk hq h1 h2 h3 h4 h5
    obtain ⟨q, rfl⟩ : ∃ z, q = z + 1 := ⟨q - 1, by omega⟩
    have hn79 : ¬ (nI (20 + k) < 0 ∨ 79 ≤ 20 + k) := fun z => z.elim (ix_neg (by omega)) (by omega)
    have key : fn_X8_tell_2 (q + 1) r (nI k) = fn_X8_tell_2 q (upd r (20 + k) (nI (if (nless M (nmore le x)).testBit k then 1 else 0))) (nI (k + 1)) := by
      show (if _ then _ else _) = _
      rw [if_neg (show ¬ (10 : Int32) ≤ nI k from ix_ge (n := 10) (by omega) (by omega)), show (20 : Int32) = nI 20 from rfl, ix_add, ix_add0, if_neg (nI_in (N := 79) (by omega) (by omega)), nI_clamp (show 20 + k < 2 ^ 31 by omega), nI_clamp (show k < 2 ^ 31 by omega), h3 k (Nat.le_refl _) (by omega), h1 k (by omega), h2, if_neg (show ¬ (nI k < 0 ∨ 79 ≤ k) from fun z => z.elim (ix_neg (by omega)) (by omega))]
      unfold fn_X8_tell_48 fn_X8_tell_49
      rw [nI_clamp (show 20 + k < 2 ^ 31 by omega), if_neg hn79, nI_1, nless_bit (by omega), nmore_bit (by omega)]
      cases hb : M.testBit k with
      | false => rw [if_neg (by decide)]; rfl
      | true =>
        rw [if_pos (by decide), if_neg (show ¬ (nI k < 0 ∨ 79 ≤ k) from fun z => z.elim (ix_neg (by omega)) (by omega))]
        by_cases e4 : le k = 4
        · have : ¬ (4 : Int32) ≤ x := Int32.not_le.mpr hx
          rw [if_pos e4, e4]
          simp [this]
          rfl
        · rw [if_neg e4]
          by_cases c : le k ≤ x
          · rw [if_neg (Int32.not_lt.mpr c), if_neg hn79]
            simp [c]
            rfl
          · rw [if_pos (Int32.not_le.mp c)]
            simp [c]
            rfl
    rw [key]
    refine ih (k + 1) q _ (by omega) (by omega) (fun j hj => ?_) ?_ (fun j hj hj2 => ?_) (fun j hj => ?_) (fun i hi => ?_)
    · rw [upd_ne (by omega)]; exact h1 j hj
    · rw [upd_ne (by omega)]; exact h2
    · rw [upd_ne (by omega)]; exact h3 j (by omega) hj2
    · by_cases e : j = k
      · subst e; exact upd_self
      · rw [upd_ne (by omega)]; exact h4 j (by omega)
    · rw [upd_ne (by omega)]; exact h5 i hi
theorem sim_tell {M : Nat} {le sh r : kF} {x : Int32} (hM : M < 1024) (hx : x < 4) (hP : PR le sh r) (hT : TBR M r) (h77 : r 77 = x) :
    ∃ r', fn_X2_tell (nI M) le x = some (nI (M &&& nmore le x), nI (nless M (nmore le x))) ∧ fn_X8_tell r = some r' ∧ TBR (nless M (nmore le x)) r' ∧ ∀ i, (i < 20 ∨ 30 ≤ i) → r' i = r i := by
  obtain ⟨r', h1, h2, h3⟩ := tell_loop (M := M) (le := le) (r0 := r) hx 10 0 4096 r (by omega) (by omega) (fun j hj => (hP j hj).1) h77 (fun j _ hj => hT j hj) (fun j hj => absurd hj (Nat.not_lt_zero j)) (fun _ _ => rfl)
  exact ⟨r', tell_c hM, h1, h2, h3⟩
theorem npop_split {M N : Nat} : ∀ n, n ≤ 10 → npop (M &&& N) n + npop (nless M N) n = npop M n
  | 0, _ => rfl
  | n + 1, h => by
    have ih := npop_split (M := M) (N := N) n (by omega)
    simp only [npop, Nat.testBit_and, nless_bit (show n < 10 by omega)]
    cases M.testBit n <;> cases N.testBit n <;> simp <;> omega
/-- the pins set again -/
theorem setAgain_c_loop {M : Nat} {x2 : Int32} (hM : M < 1024) : ∀ (d k q : Nat) (le : kF), k + d = 10 → d < q → (∀ j, j < k → le j = if M.testBit j then 0 else 4) → ∃ le', fn_X2_setAgain_20 q (nI M) le x2 (nI k) = (fn_J6_bitCount_0f7a4 x2).bind (fun o => some (o, nI M, le')) ∧ ∀ j, j < 10 → le' j = if M.testBit j then 0 else 4 := by
  intro d
  induction d with
  | zero =>
    intro k q le hk hq hl
    obtain ⟨q, rfl⟩ : ∃ z, q = z + 1 := ⟨q - 1, by omega⟩
    have hk : k = 10 := by omega
    subst hk
    refine ⟨le, ?_, hl⟩
    show (if _ then _ else _) = _
    rw [if_pos (show (10 : Int32) ≤ nI 10 from Int32.le_refl _)]
  | succ d ih =>
    intro k q le hk hq hl
    obtain ⟨q, rfl⟩ : ∃ z, q = z + 1 := ⟨q - 1, by omega⟩
    have key : fn_X2_setAgain_20 (q + 1) (nI M) le x2 (nI k) = fn_X2_setAgain_20 q (nI M) (upd le k (if M.testBit k then 0 else 4)) x2 (nI (k + 1)) := by
      show (if _ then _ else _) = _
      rw [if_neg (show ¬ (10 : Int32) ≤ nI k from ix_ge (n := 10) (by omega) (by omega)), n_bit hM (by omega)]
      unfold fn_X2_setAgain_47
      rw [if_neg (nI_in (N := 10) (by omega) (by omega)), nI_clamp (by omega), nI_1]
      cases hb : M.testBit k with
      | false => rw [if_pos (by decide)]; rfl
      | true => rw [if_neg (by decide), if_neg (show ¬ (nI k < 0 ∨ 10 ≤ k) from fun z => z.elim (ix_neg (by omega)) (by omega))]; rfl
    rw [key]
    refine ih (k + 1) q _ (by omega) (by omega) (fun j hj => ?_)
    by_cases e : j = k
    · subst e; exact upd_self
    · rw [upd_ne e]; exact hl j (by omega)
theorem setAgain_c {M : Nat} {le : kF} {x : Int32} (hM : M < 1024) : ∃ le', fn_X2_setAgain (nI M) le x = some (nI (npop (M &&& nmore le x) 10), nI (nless M (nmore le x)), le') ∧ ∀ j, j < 10 → le' j = if (nless M (nmore le x)).testBit j then 0 else 4 := by
  unfold fn_X2_setAgain fn_X2_dropSet
  rw [moreThan_eq, kbs, kbs, n_and, nless_eq hM (and_lt hM)]
  have e : nless M (M &&& nmore le x) = nless M (nmore le x) := by
    refine mask_ext nless_lt nless_lt (fun k hk => ?_)
    rw [nless_bit hk, nless_bit hk, Nat.testBit_and]
    cases M.testBit k <;> simp
  rw [e]
  obtain ⟨le', h1, h2⟩ := setAgain_c_loop (M := nless M (nmore le x)) (x2 := nI (M &&& nmore le x)) nless_lt 10 0 4096 le (by omega) (by omega) (fun j hj => absurd hj (Nat.not_lt_zero j))
  refine ⟨le', ?_, h2⟩
  have h0 : fn_X2_setAgain_20 4096 (nI (nless M (nmore le x))) le (nI (M &&& nmore le x)) 0 = _ := h1
  rw [h0, bitCount_eq (and_lt hM), kbs]
theorem slips_m {M : Nat} {le r : kF} {x : Int32} {k : Nat} (hk : k < 10) (h1 : r k = le k) (h2 : r (20 + k) = nI (if M.testBit k then 1 else 0)) (h3 : r 78 = x) (h4 : M.testBit k = true → le k ≠ 4) : fn_X8_slips r (nI k) = some (if M.testBit k && !decide (le k ≤ x) then 1 else 0) := by
  unfold fn_X8_slips
  rw [show (20 : Int32) = nI 20 from rfl, ix_add, ix_add0, if_neg (nI_in (N := 79) (by omega) (by omega)), nI_clamp (show 20 + k < 2 ^ 31 by omega), nI_clamp (show k < 2 ^ 31 by omega), h2, h1, h3, if_neg (show ¬ (nI k < 0 ∨ 79 ≤ k) from fun z => z.elim (ix_neg (by omega)) (by omega))]
  cases hb : M.testBit k with
  | false => rw [if_neg (by decide)]; rfl
  | true =>
    rw [if_pos (by decide), if_neg (h4 hb), if_neg (show ¬ (nI k < 0 ∨ 79 ≤ k) from fun z => z.elim (ix_neg (by omega)) (by omega))]
    by_cases c : le k ≤ x
    · rw [if_pos c]; simp [c]; rfl
    · rw [if_neg c]; simp [c]; rfl
theorem setAgain_m_loop {M : Nat} {le r0 : kF} {x : Int32} (h4 : ∀ k, k < 10 → M.testBit k = true → le k ≠ 4) : ∀ (d k q : Nat) (r : kF), k + d = 10 → d < q → (∀ j, k ≤ j → j < 10 → r j = le j) → r 78 = x → (∀ j, k ≤ j → j < 10 → r (20 + j) = nI (if M.testBit j then 1 else 0)) → (∀ j, j < k → r (20 + j) = nI (if (nless M (nmore le x)).testBit j then 1 else 0)) → (∀ j, j < k → r j = if (nless M (nmore le x)).testBit j then 0 else 4) → r 74 = r0 74 + nI (npop (M &&& nmore le x) k) → (∀ i, ((10 ≤ i ∧ i < 20) ∨ 30 ≤ i) → i ≠ 74 → r i = r0 i) →
    ∃ r', fn_X8_setAgain_2 q r (nI k) = some r' ∧ TBR (nless M (nmore le x)) r' ∧ (∀ j, j < 10 → r' j = if (nless M (nmore le x)).testBit j then 0 else 4) ∧ r' 74 = r0 74 + nI (npop (M &&& nmore le x) 10) ∧ ∀ i, ((10 ≤ i ∧ i < 20) ∨ 30 ≤ i) → i ≠ 74 → r' i = r0 i := by
  intro d
  induction d with
  | zero =>
    intro k q r hk hq h1 h2 h3 h5 h6 h7 h8
    obtain ⟨q, rfl⟩ : ∃ z, q = z + 1 := ⟨q - 1, by omega⟩
    have hk : k = 10 := by omega
    subst hk
    exact ⟨r, rfl, h5, h6, h7, h8⟩
  | succ d ih =>
    intro k q r hk hq h1 h2 h3 h5 h6 h7 h8
    obtain ⟨q, rfl⟩ : ∃ z, q = z + 1 := ⟨q - 1, by omega⟩
    have hn79 : ¬ (nI (20 + k) < 0 ∨ 79 ≤ 20 + k) := fun z => z.elim (ix_neg (by omega)) (by omega)
    have hn : ¬ (nI k < 0 ∨ 79 ≤ k) := fun z => z.elim (ix_neg (by omega)) (by omega)
    have hsl := slips_m (by omega) (h1 k (Nat.le_refl _) (by omega)) (h3 k (Nat.le_refl _) (by omega)) h2 (h4 k (by omega))
    have hbit : (nless M (nmore le x)).testBit k = (M.testBit k && decide (le k ≤ x)) := by rw [nless_bit (by omega), nmore_bit (by omega)]; simp
    have h31 : ∀ (r1 : kF) (b : Bool), r1 (20 + k) = nI (if b then 1 else 0) → fn_X8_setAgain_31 (fn_X8_setAgain_2 q) r1 (nI k) = fn_X8_setAgain_2 q (upd r1 k (if b then 0 else 4)) (nI (k + 1)) := by
      intro r1 b hb
      unfold fn_X8_setAgain_31
      rw [show (20 : Int32) = nI 20 from rfl, ix_add, ix_add0, if_neg (nI_in (N := 79) (by omega) (by omega)), nI_clamp (show 20 + k < 2 ^ 31 by omega), hb]
      unfold fn_X8_setAgain_50
      rw [nI_clamp (show k < 2 ^ 31 by omega), if_neg hn, if_neg hn, nI_1]
      cases b
      · rw [if_neg (by decide)]; rfl
      · rw [if_pos (by decide)]; rfl
    have e2 : fn_X8_setAgain_2 (q + 1) r (nI k) = (fn_X8_slips r (nI k)).bind fun o10 => if o10 = 0 then fn_X8_setAgain_31 (fn_X8_setAgain_2 q) r (nI k) else fn_X8_setAgain_31 (fn_X8_setAgain_2 q) (upd (upd r 74 (r 74 + 1)) (20 + k) 0) (nI k) := by
      show (if _ then _ else _) = _
      rw [if_neg (show ¬ (10 : Int32) ≤ nI k from ix_ge (n := 10) (by omega) (by omega)), show (20 : Int32) = nI 20 from rfl, ix_add, nI_clamp (show 20 + k < 2 ^ 31 by omega)]
      simp only [if_neg hn79]
    rw [e2, hsl, kbs]
    by_cases c : (M.testBit k && !decide (le k ≤ x)) = true
    · rw [if_pos c, if_neg (by decide), h31 (upd (upd r 74 (r 74 + 1)) (20 + k) 0) false (by rw [upd_self]; rfl)]
      simp only [Bool.and_eq_true, Bool.not_eq_true', decide_eq_false_iff_not] at c
      have hb0 : (nless M (nmore le x)).testBit k = false := by rw [hbit]; simp [c.2]
      refine ih (k + 1) q _ (by omega) (by omega) (fun j hj hj2 => ?_) ?_ (fun j hj hj2 => ?_) (fun j hj => ?_) (fun j hj => ?_) ?_ (fun i hi hi2 => ?_)
      · rw [upd_ne (by omega), upd_ne (by omega), upd_ne (by omega)]; exact h1 j (by omega) hj2
      · rw [upd_ne (by omega), upd_ne (by omega), upd_ne (by omega)]; exact h2
      · rw [upd_ne (by omega), upd_ne (by omega), upd_ne (by omega)]; exact h3 j (by omega) hj2
      · rw [upd_ne (by omega)]
        by_cases e : j = k
        · subst e; rw [upd_self, hb0]; rfl
        · rw [upd_ne (by omega), upd_ne (by omega)]; exact h5 j (by omega)
      · by_cases e : j = k
        · subst e; rw [upd_self, hb0]
        · rw [upd_ne e, upd_ne (by omega), upd_ne (by omega)]; exact h6 j (by omega)
      · rw [upd_ne (by omega), upd_ne (by omega), upd_self, h7, Int32.add_assoc, nI_1]
        congr 2
        simp only [npop, Nat.testBit_and, nmore_bit (show k < 10 by omega), c.1, decide_eq_false c.2, Bool.not_false, Bool.and_self, if_true]
      · rw [upd_ne (by omega), upd_ne (by omega), upd_ne hi2]; exact h8 i hi hi2
    · rw [if_neg c, if_pos rfl, h31 r _ (h3 k (Nat.le_refl _) (by omega))]
      have c' : (M.testBit k && !decide (le k ≤ x)) = false := by simpa using c
      have hb0 : (nless M (nmore le x)).testBit k = M.testBit k := by
        rw [hbit]
        cases hM : M.testBit k
        · rfl
        · rw [hM] at c'; simpa using c'
      refine ih (k + 1) q _ (by omega) (by omega) (fun j hj hj2 => ?_) ?_ (fun j hj hj2 => ?_) (fun j hj => ?_) (fun j hj => ?_) ?_ (fun i hi hi2 => ?_)
      · rw [upd_ne (by omega)]; exact h1 j (by omega) hj2
      · rw [upd_ne (by omega)]; exact h2
      · rw [upd_ne (by omega)]; exact h3 j (by omega) hj2
      · rw [upd_ne (by omega)]
        by_cases e : j = k
        · subst e; rw [hb0]; exact h3 j (Nat.le_refl _) (by omega)
        · exact h5 j (by omega)
      · by_cases e : j = k
        · subst e; rw [upd_self, hb0]
        · rw [upd_ne e]; exact h6 j (by omega)
      · rw [upd_ne (by omega), h7]
        congr 2
        simp only [npop, Nat.testBit_and, nmore_bit (show k < 10 by omega), c']
        simp
      · rw [upd_ne (by omega)]; exact h8 i hi hi2
theorem setAgain_m {M : Nat} {le sh r : kF} {x : Int32} (hP : PR le sh r) (hT : TBR M r) (h4 : ∀ k, k < 10 → M.testBit k = true → le k ≠ 4) (h78 : r 78 = x) :
    ∃ r', fn_X8_setAgain r = some r' ∧ TBR (nless M (nmore le x)) r' ∧ (∀ j, j < 10 → r' j = if (nless M (nmore le x)).testBit j then 0 else 4) ∧ r' 74 = r 74 + nI (npop (M &&& nmore le x) 10) ∧ ∀ i, ((10 ≤ i ∧ i < 20) ∨ 30 ≤ i) → i ≠ 74 → r' i = r i :=
  setAgain_m_loop (M := M) (le := le) (r0 := r) h4 10 0 4096 r (by omega) (by omega) (fun j _ hj => (hP j hj).1) h78 (fun j _ hj => hT j hj) (fun j hj => absurd hj (Nat.not_lt_zero j)) (fun j hj => absurd hj (Nat.not_lt_zero j)) (by rw [show npop (M &&& nmore le x) 0 = 0 from rfl, show nI 0 = (0 : Int32) from rfl, Int32.add_zero]) (fun _ _ _ => rfl)
/-- new racks -/
theorem rack_c_loop {told : Int32} : ∀ (d k q : Nat) (le sh : kF), k + d = 10 → d < q → (∀ j, j < k → le j = 0 ∧ sh j = 0) → ∃ le' sh', fn_X2_newRack_2 q told le sh (nI k) = some (1023, le', sh') ∧ ∀ j, j < 10 → le' j = 0 ∧ sh' j = 0 := by
  intro d
  induction d with
  | zero =>
    intro k q le sh hk hq hl
    obtain ⟨q, rfl⟩ : ∃ z, q = z + 1 := ⟨q - 1, by omega⟩
    have hk : k = 10 := by omega
    subst hk
    exact ⟨le, sh, rfl, hl⟩
  | succ d ih =>
    intro k q le sh hk hq hl
    obtain ⟨q, rfl⟩ : ∃ z, q = z + 1 := ⟨q - 1, by omega⟩
    have key : fn_X2_newRack_2 (q + 1) told le sh (nI k) = fn_X2_newRack_2 q told (upd le k 0) (upd sh k 0) (nI (k + 1)) := by
      show (if _ then _ else _) = _
      rw [if_neg (show ¬ (10 : Int32) ≤ nI k from ix_ge (n := 10) (by omega) (by omega)), if_neg (nI_in (N := 10) (by omega) (by omega)), if_neg (nI_in (N := 10) (by omega) (by omega)), nI_clamp (by omega), nI_1]
    rw [key]
    refine ih (k + 1) q _ _ (by omega) (by omega) (fun j hj => ?_)
    by_cases e : j = k
    · subst e; exact ⟨upd_self, upd_self⟩
    · rw [upd_ne e, upd_ne e]; exact hl j (by omega)
theorem rack_c {told : Int32} {le sh : kF} : ∃ le' sh', fn_X2_newRack told le sh = some (1023, le', sh') ∧ ∀ j, j < 10 → le' j = 0 ∧ sh' j = 0 := rack_c_loop 10 0 4096 le sh (by omega) (by omega) (fun j hj => absurd hj (Nat.not_lt_zero j))
theorem rack_m_loop {r0 : kF} : ∀ (d k q : Nat) (r : kF), k + d = 10 → d < q → (∀ j, j < k → r j = 0 ∧ r (10 + j) = 0 ∧ r (20 + j) = 1) → (∀ i, 30 ≤ i → r i = r0 i) → ∃ r', fn_X8_rack_2 q r (nI k) = some r' ∧ (∀ j, j < 10 → r' j = 0 ∧ r' (10 + j) = 0 ∧ r' (20 + j) = 1) ∧ ∀ i, 30 ≤ i → r' i = r0 i := by
  intro d
  induction d with
  | zero =>
    intro k q r hk hq hl h2
    obtain ⟨q, rfl⟩ : ∃ z, q = z + 1 := ⟨q - 1, by omega⟩
    have hk : k = 10 := by omega
    subst hk
    exact ⟨r, rfl, hl, h2⟩
  | succ d ih =>
    intro k q r hk hq hl h2
    obtain ⟨q, rfl⟩ : ∃ z, q = z + 1 := ⟨q - 1, by omega⟩
    have key : fn_X8_rack_2 (q + 1) r (nI k) = fn_X8_rack_2 q (upd (upd (upd r k 0) (10 + k) 0) (20 + k) 1) (nI (k + 1)) := by
      show (if _ then _ else _) = _
      rw [if_neg (show ¬ (10 : Int32) ≤ nI k from ix_ge (n := 10) (by omega) (by omega)), show (20 : Int32) = nI 20 from rfl, show (10 : Int32) = nI 10 from rfl, ix_add, ix_add, ix_add0, if_neg (nI_in (N := 79) (by omega) (by omega)), if_neg (nI_in (N := 79) (by omega) (by omega)), if_neg (nI_in (N := 79) (by omega) (by omega)), nI_clamp (by omega), nI_clamp (by omega), nI_clamp (by omega)]
      unfold fn_X8_rack_28
      rw [nI_1]
    rw [key]
    refine ih (k + 1) q _ (by omega) (by omega) (fun j hj => ?_) (fun i hi => ?_)
    · by_cases e : j = k
      · subst e
        refine ⟨?_, ?_, upd_self⟩
        · rw [upd_ne (by omega), upd_ne (by omega), upd_self]
        · rw [upd_ne (by omega), upd_self]
      · rw [upd_ne (by omega), upd_ne (by omega), upd_ne (by omega), upd_ne (by omega), upd_ne (by omega), upd_ne (by omega), upd_ne (by omega), upd_ne (by omega), upd_ne (by omega)]
        exact hl j (by omega)
    · rw [upd_ne (by omega), upd_ne (by omega), upd_ne (by omega)]; exact h2 i hi
theorem rack_m {r : kF} : ∃ r', fn_X8_rack r = some r' ∧ (∀ j, j < 10 → r' j = 0 ∧ r' (10 + j) = 0 ∧ r' (20 + j) = 1) ∧ ∀ i, 30 ≤ i → r' i = r i := rack_m_loop 10 0 4096 r (by omega) (by omega) (fun j hj => absurd hj (Nat.not_lt_zero j)) (fun _ _ => rfl)
