/-! the ball goes through the rows: class and reference -/
theorem compare_eq {x : Int32} : fn_J6_compare_7cf53 0 x = some (if x ≤ 0 then (if 0 = x then 0 else 1) else -1) := by
  unfold fn_J6_compare_7cf53
  by_cases h : x ≤ 0
  · rw [if_pos h, if_pos h]
    by_cases h2 : 0 = x
    · rw [if_pos h2, if_pos h2]; rfl
    · rw [if_neg h2, if_neg h2]; rfl
  · rw [if_neg h, if_neg h]; rfl
theorem clamp_sh {x : Int32} (h : shok x) : (if (-2 : Int32) < (if x + 1 < 2 then x + 1 else 2) then (if x + 1 < 2 then x + 1 else 2) else -2) = (if -2 ≤ x + 1 ∧ x + 1 ≤ 2 then x + 1 else x) ∧ (if (-2 : Int32) < (if x - 1 < 2 then x - 1 else 2) then (if x - 1 < 2 then x - 1 else 2) else -2) = (if -2 ≤ x - 1 ∧ x - 1 ≤ 2 then x - 1 else x) ∧ shok (if -2 ≤ x + 1 ∧ x + 1 ≤ 2 then x + 1 else x) ∧ shok (if -2 ≤ x - 1 ∧ x - 1 ≤ 2 then x - 1 else x) := by
  unfold shok at h ⊢
  rcases h with rfl | rfl | rfl | rfl | rfl <;> decide
theorem PR.shift {le sh r : kF} {k : Nat} {v : Int32} (hk : k < 10) (h : PR le sh r) (hv : shok v) : PR le (upd sh k v) (upd r (10 + k) v) := by
  intro j hj
  obtain ⟨h1, h2, h3, h4⟩ := h j hj
  rw [upd_ne (by omega : j ≠ 10 + k)]
  by_cases e : j = k
  · subst e
    rw [upd_self, upd_self]
    exact ⟨h1, rfl, h3, hv⟩
  · rw [upd_ne e, upd_ne (by omega)]
    exact ⟨h1, h2, h3, h4⟩
theorem meet53 {wl wr : Int32} {le sh : kF} {k : Nat} {off : Int32} (hk : k < 10) (hs : shok (sh k)) :
    fn_X2_meet_53 wl wr le sh (nI k) off = (fn_X2_leanMore wl wr le (nI k) 1 off).bind (fun o => some (0, o.1, o.2.1, o.2.2, upd sh k (if off ≤ 0 then (if -2 ≤ sh k - 1 ∧ sh k - 1 ≤ 2 then sh k - 1 else sh k) else (if -2 ≤ sh k + 1 ∧ sh k + 1 ≤ 2 then sh k + 1 else sh k)))) := by
  obtain ⟨c1, c2, -, -⟩ := clamp_sh hs
  have hn : ¬ (nI k < 0 ∨ 10 ≤ k) := fun z => z.elim (ix_neg (by omega)) (by omega)
  unfold fn_X2_meet_53
  simp only [nI_clamp (show k < 2 ^ 31 by omega), if_neg hn]
  by_cases h : off ≤ 0
  · simp only [if_pos h]
    unfold fn_X2_meet_76
    simp only [nI_clamp (show k < 2 ^ 31 by omega), if_neg hn]
    rw [c2]
    rfl
  · simp only [if_neg h]
    unfold fn_X2_meet_76
    simp only [nI_clamp (show k < 2 ^ 31 by omega), if_neg hn]
    rw [c1]
    rfl
theorem in_m2 {x : Int32} : fn_X8_in x.toInt64 (-2) 2 = some (if -2 ≤ x ∧ x ≤ 2 then 1 else 0) := in_m (lo := -2) (hi := 2)
theorem in_m3 {x : Int32} : fn_X8_in x.toInt64 (-3) 3 = some (if -3 ≤ x ∧ x ≤ 3 then 1 else 0) := in_m (lo := -3) (hi := 3)
theorem meet88 {side r : kF} {k : Nat} {off : Int32} (hk : k < 10) :
    fn_X8_meet_88 side r (nI k) off = (fn_X8_leanMore side (upd r (10 + k) (if off ≤ 0 then (if -2 ≤ r (10 + k) - 1 ∧ r (10 + k) - 1 ≤ 2 then r (10 + k) - 1 else r (10 + k)) else (if -2 ≤ r (10 + k) + 1 ∧ r (10 + k) + 1 ≤ 2 then r (10 + k) + 1 else r (10 + k)))) (nI k) 1 (if off ≤ 0 then 1 else 2)).bind (fun o => some (0, o.1, o.2)) := by
  unfold fn_X8_meet_88
  rw [show (10 : Int32) = nI 10 from rfl, ix_add, if_neg (nI_in (N := 79) (by omega) (by omega)), nI_clamp (by omega)]
  unfold fn_X8_meet_104
  rw [show (10 : Int32) = nI 10 from rfl, ix_add, nI_clamp (by omega)]
  have hsub : r (10 + k) + (-1) = r (10 + k) - 1 := by rw [Int32.sub_eq_add_neg]
  have hn : ¬ (nI (10 + k) < 0 ∨ 79 ≤ 10 + k) := fun z => z.elim (ix_neg (by omega)) (by omega)
  by_cases h : off ≤ 0
  · rw [if_pos h, if_pos h, if_pos h, in_m2, hsub]
    simp only [kbs]
    by_cases h2 : -2 ≤ r (10 + k) - 1 ∧ r (10 + k) - 1 ≤ 2
    · simp only [if_pos h2]
      rw [if_neg (by decide)]
      unfold fn_X8_meet_138
      rw [nI_clamp (by omega), if_neg hn, if_pos h]
      rfl
    · simp only [if_neg h2]
      simp only [if_true, if_neg hn]
      unfold fn_X8_meet_138
      rw [nI_clamp (by omega), if_neg hn, if_pos h]
      rfl
  · rw [if_neg h, if_neg h, if_neg h, in_m2]
    simp only [kbs]
    by_cases h2 : -2 ≤ r (10 + k) + 1 ∧ r (10 + k) + 1 ≤ 2
    · simp only [if_pos h2]
      rw [if_neg (by decide)]
      unfold fn_X8_meet_138
      rw [nI_clamp (by omega), if_neg hn, if_neg h]
      rfl
    · simp only [if_neg h2]
      simp only [if_true, if_neg hn]
      unfold fn_X8_meet_138
      rw [nI_clamp (by omega), if_neg hn, if_neg h]
      rfl
/-- what a ball meets, alike in both -/
theorem sim_meet {le0 : kF} {wl wr : Int32} {le sh r side : kF} {k : Nat} {p : Int32} (hk : k < 10) (hP : PR le sh r) (hW : WR le0 wl wr le side) (h4 : le k ≠ 4) :
    ∃ (a wl' wr' : Int32) (le' sh' side' r' : kF), fn_X2_meet wl wr le sh (nI k) p = some (a, wl', wr', le', sh') ∧ fn_X8_meet side r (nI k) p = some (a, side', r') ∧ PR le' sh' r' ∧ WR le0 wl' wr' le' side' ∧ Keep 20 r r' := by
  obtain ⟨h1, h2, h3, h5⟩ := hP k hk
  have hlt := lv_lt4 h3 h4
  unfold fn_X2_meet fn_X8_meet
  rw [isUp_c hk, if_neg (Int32.not_le.mpr hlt), board_m hk, h2]
  simp only [kbs]
  rw [if_neg (by decide), board_c hk]
  simp only [kbs]
  generalize hoff : kHB k + sh k - p = off
  rw [in_m3]
  simp only [kbs]
  by_cases hin : -3 ≤ off ∧ off ≤ 3
  · simp only [if_pos hin]
    rw [if_neg (Int32.not_lt.mpr hin.1), if_neg (Int32.not_lt.mpr hin.2), if_neg (by decide : ¬ (1 : Int32) = 0), lean_c hk hlt]
    have hc : (3 : Int32) < le k + 4 := by
      rcases h3 with h | h | h | h | h <;> rw [h] <;> first | decide | exact absurd h h4
    rw [if_pos hc, compare_eq, ix_add0, if_neg (nI_in (N := 79) (by omega) (by omega)), nI_clamp (by omega)]
    simp only [kbs]
    have hPR : PR (upd le k 4) sh (upd r k 4) := hP.lean' hk (by unfold lvok; decide)
    have h54 : ∀ (v : Int32), fn_X8_meet_54 side (upd r k 4) off (nI k) v = some (if off ≤ 0 then (if 0 = off then 0 else 1) else -1, upd side k v, upd r k 4) := by
      intro v
      unfold fn_X8_meet_54
      rw [if_neg (nI_in (N := 10) hk (by omega)), nI_clamp (by omega)]
      by_cases g1 : off ≤ 0
      · rw [if_pos g1, if_pos g1]
        by_cases g2 : 0 ≤ off
        · rw [if_pos g2, if_pos (Int32.le_antisymm g2 g1)]; rfl
        · rw [if_neg g2, if_neg (fun e => g2 (by rw [← e]; exact Int32.le_refl _))]; rfl
      · rw [if_neg g1, if_neg g1]; rfl
    by_cases g1 : off ≤ 0
    · by_cases g2 : 0 ≤ off
      · have e0 : off = 0 := Int32.le_antisymm g1 g2
        simp only [h54, if_pos g1, if_pos g2]
        subst e0
        exact ⟨_, _, _, _, _, _, _, rfl, rfl, hPR, WR_set hk hW h4 true true rfl, Keep.upd (by omega)⟩
      · have g3 : off < 0 := Int32.not_le.mp g2
        simp only [h54, if_pos g1, if_neg g2, if_neg (Int32.not_lt.mpr g1), if_pos g3]
        exact ⟨_, _, _, _, _, _, _, rfl, rfl, hPR, WR_set hk hW h4 true false rfl, Keep.upd (by omega)⟩
    · have g3 : 0 < off := Int32.not_le.mp g1
      have g4 : ¬ off < 0 := Int32.not_lt.mpr (Int32.le_of_lt g3)
      simp only [h54, if_neg g1, if_pos g3, if_neg g4]
      exact ⟨_, _, _, _, _, _, _, rfl, rfl, hPR, WR_set hk hW h4 false true rfl, Keep.upd (by omega)⟩
  · simp only [if_neg hin, if_true]
    have hcl : (if off < -3 then fn_X2_meet_42 wl wr le sh (nI k) off else if 3 < off then fn_X2_meet_42 wl wr le sh (nI k) off else (fn_X2_leanMore wl wr le (nI k) 4 off).bind fun o33 => (fn_J6_compare_7cf53 0 off).bind fun o38 => some (o38, o33.1, o33.2.1, o33.2.2, sh)) = fn_X2_meet_42 wl wr le sh (nI k) off := by
      by_cases g : off < -3
      · rw [if_pos g]
      · rw [if_neg g]
        by_cases g2 : 3 < off
        · rw [if_pos g2]
        · exact absurd ⟨Int32.not_lt.mp g, Int32.not_lt.mp g2⟩ hin
    rw [hcl]
    unfold fn_X2_meet_42
    have hside : ∀ off : Int32, (off = 4 ∨ off = -4) → ∃ (a wl' wr' : Int32) (le' sh' side' r' : kF), fn_X2_meet_53 wl wr le sh (nI k) off = some (a, wl', wr', le', sh') ∧ fn_X8_meet_88 side r (nI k) off = some (a, side', r') ∧ PR le' sh' r' ∧ WR le0 wl' wr' le' side' ∧ Keep 20 r r' := by
      intro off ho
      rw [meet53 hk h5, meet88 hk, h2]
      obtain ⟨-, -, c3, c4⟩ := clamp_sh h5
      have hv : shok (if off ≤ 0 then (if -2 ≤ sh k - 1 ∧ sh k - 1 ≤ 2 then sh k - 1 else sh k) else (if -2 ≤ sh k + 1 ∧ sh k + 1 ≤ 2 then sh k + 1 else sh k)) := by
        by_cases g : off ≤ 0
        · rw [if_pos g]; exact c4
        · rw [if_neg g]; exact c3
      generalize (if off ≤ 0 then (if -2 ≤ sh k - 1 ∧ sh k - 1 ≤ 2 then sh k - 1 else sh k) else (if -2 ≤ sh k + 1 ∧ sh k + 1 ≤ 2 then sh k + 1 else sh k)) = v at hv ⊢
      have hto : (0 < off ∧ (if off ≤ 0 then (1 : Int32) else 2) = 2) ∨ (off < 0 ∧ (if off ≤ 0 then (1 : Int32) else 2) = 1) := by
        rcases ho with rfl | rfl <;> decide
      obtain ⟨wl', wr', le', side', r', e1, e2, e3, e4, e5⟩ := sim_lean hk (hP.shift hk hv) hW h4 (Or.inl rfl) hto
      rw [e1, e2]
      exact ⟨0, wl', wr', le', _, side', r', rfl, rfl, e3, e4, (Keep.upd (by omega)).trans e5⟩
    by_cases g : off = 4
    · rw [if_pos g, if_pos g]
      exact hside off (Or.inl g)
    · rw [if_neg g, if_neg g]
      by_cases g2 : off = -4
      · rw [if_pos g2, if_pos g2]
        exact hside off (Or.inr g2)
      · rw [if_neg g2, if_neg g2]
        exact ⟨0, wl, wr, le, sh, side, r, rfl, rfl, hP, hW, Keep.refl⟩
theorem side_and {x y : Bool} : ((nI ((if x then 1 else 0) + (if y then 2 else 0)) &&& 1 ≤ 0) ↔ x = false) ∧ ((nI ((if x then 1 else 0) + (if y then 2 else 0)) &&& 2 ≤ 0) ↔ y = false) := by
  cases x <;> cases y <;> decide
theorem bit_if {b : Bool} : (nI (if b then 1 else 0) = 0) ↔ b = false := by cases b <;> decide
theorem sim_pushR {le0 : kF} {wl wr : Int32} {le sh r side : kF} {k j : Nat} (hk : k < 10) (hj : j + 1 < 10) (hP : PR le sh r) (hW : WR le0 wl wr le side) :
    ∃ (wl' wr' : Int32) (le' side' r' : kF), fn_X2_pushBehind_18 wl wr le (nI k) (nI j) = some (wl', wr', le') ∧ fn_X8_pushFrom_50 side r (nI k) (nI j) = some (side', r') ∧ PR le' sh r' ∧ WR le0 wl' wr' le' side' ∧ Keep 20 r r' := by
  obtain ⟨a, b, ea, eb, ha, hb, hs⟩ := id hW
  unfold fn_X2_pushBehind_18 fn_X8_pushFrom_50
  rw [eb, n_bit hb hk, if_neg (nI_in (N := 10) hk (by omega)), nI_clamp (by omega), (hs k hk).1]
  by_cases hbit : b.testBit k = false
  · rw [if_pos (bit_if.mpr hbit), if_pos (side_and.2.mpr hbit)]
    exact ⟨_, _, _, _, _, rfl, rfl, hP, eb ▸ hW, Keep.refl⟩
  · rw [if_neg (fun h => hbit (bit_if.mp h)), if_neg (fun h => hbit (side_and.2.mp h)), ix_add0, nI_1, if_neg (nI_in (N := 79) (by omega) (by omega)), nI_clamp (by omega), (hP (j + 1) hj).1, ← eb]
    by_cases h4 : le (j + 1) = 4
    · rw [if_pos h4, lean_c4 (Or.inl h4) (by omega)]
      exact ⟨_, _, _, _, _, rfl, rfl, hP, hW, Keep.refl⟩
    · rw [if_neg h4]
      obtain ⟨wl', wr', le', side', r', e1, e2, e3, e4, e5⟩ := sim_lean (n := 2) (off := 1) (to := 2) hj hP hW h4 (Or.inr rfl) (Or.inl ⟨by decide, rfl⟩)
      rw [e1, e2]
      exact ⟨wl', wr', le', side', r', rfl, rfl, e3, e4, e5⟩
theorem sim_push {le0 : kF} {wl wr : Int32} {le sh r side : kF} {k : Nat} (hk : k < 6) (hP : PR le sh r) (hW : WR le0 wl wr le side) :
    ∃ (wl' wr' : Int32) (le' side' r' : kF), fn_X2_pushBehind wl wr le (nI k) (nI (k + nrow k + 1)) = some (wl', wr', le') ∧ fn_X8_pushFrom side r (nI k) = some (side', r') ∧ PR le' sh r' ∧ WR le0 wl' wr' le' side' ∧ Keep 20 r r' := by
  have hrow : nrow k < 3 := by unfold nrow; split <;> (try split) <;> (try split) <;> omega
  have hj : k + nrow k + 1 + 1 < 10 := by unfold nrow; split <;> (try split) <;> (try split) <;> omega
  have hbe : nI (nfirst (nrow k + 1)) + nI k - nI (nfirst (nrow k)) = nI (k + nrow k + 1) := by
    have : ∀ k : Fin 6, nI (nfirst (nrow k.val + 1)) + nI k.val - nI (nfirst (nrow k.val)) = nI (k.val + nrow k.val + 1) := by decide +kernel
    exact this ⟨k, hk⟩
  obtain ⟨a, b, ea, eb, ha, hb, hs⟩ := id hW
  unfold fn_X2_pushBehind fn_X8_pushFrom
  rw [rowOf_m (by omega)]
  simp only [kbs]
  rw [nI_1, firstOf_m (by omega)]
  simp only [kbs]
  rw [firstOf_m (by omega)]
  simp only [kbs]
  rw [hbe]
  generalize k + nrow k + 1 = j at hj ⊢
  rw [ea, n_bit ha (by omega), if_neg (nI_in (N := 10) (by omega) (by omega)), nI_clamp (by omega), (hs k (by omega)).1]
  by_cases hbit : a.testBit k = false
  · rw [if_pos (bit_if.mpr hbit), if_pos (side_and.1.mpr hbit), ← ea]
    exact sim_pushR (by omega) hj hP hW
  · rw [if_neg (fun h => hbit (bit_if.mp h)), if_neg (fun h => hbit (side_and.1.mp h)), ix_add0, if_neg (nI_in (N := 79) (by omega) (by omega)), nI_clamp (by omega), (hP j (by omega)).1, ← ea]
    by_cases h4 : le j = 4
    · rw [if_pos h4, lean_c4 (Or.inl h4) (by omega)]
      exact sim_pushR (by omega) hj hP hW
    · rw [if_neg h4]
      obtain ⟨wl', wr', le', side', r', e1, e2, e3, e4, e5⟩ := sim_lean (n := 2) (off := -1) (to := 1) (by omega) hP hW h4 (Or.inr rfl) (Or.inr ⟨by decide, rfl⟩)
      rw [e1, e2]
      simp only [kbs]
      obtain ⟨wl2, wr2, le2, side2, r2, f1, f2, f3, f4, f5⟩ := sim_pushR (k := k) (by omega) hj e3 e4
      exact ⟨wl2, wr2, le2, side2, r2, f1, f2, f3, f4, e5.trans f5⟩
theorem push_last {wl wr : Int32} {le : kF} {k : Nat} (hk : 6 ≤ k) (hk2 : k < 10) : fn_X2_pushBehind wl wr le (nI k) (nI (k + 4)) = some (wl, wr, le) := by
  have h18 : fn_X2_pushBehind_18 wl wr le (nI k) (nI (k + 4)) = some (wl, wr, le) := by
    unfold fn_X2_pushBehind_18
    rw [nI_1, lean_c4 (Or.inr (by omega)) (by omega)]
    split <;> rfl
  unfold fn_X2_pushBehind
  rw [lean_c4 (Or.inr (by omega)) (by omega)]
  simp only [kbs, h18]
  split <;> rfl
/-- the pins of a row meet the ball -/
theorem sim_row {le0 : kF} {K : Int32 → Int32 → kF → kF → Int32 → Int32 → Int32 → Int32 → Int32 → Option (Int32 × Int32 × kF × kF)} {K' : kF → kF → Int32 → Int32 → Int32 → Int32 → Option (kF × kF)} {row : Nat} (hr : row < 4) {B D F p : Int32} :
    ∀ (d k q q' : Nat) (pushed wl wr : Int32) (le sh r side : kF), k + d = nfirst (row + 1) → d < q → d < q' → PR le sh r → WR le0 wl wr le side →
      ∃ (pushed' wl' wr' : Int32) (le' sh' side' r' : kF), fn_X2_meetBall_47 K q wl wr le sh B D pushed F (nI row) p (nI (nfirst (row + 1))) (nI k) = fn_X2_meetBall_75 K 4096 wl' wr' le' sh' B D pushed' (nI row) (nI (nfirst (row + 1))) F ∧
        fn_X8_ball_54 K' q' side r B D pushed (nI row) p (nI k) = fn_X8_ball_103 K' 4096 side' r' B D pushed' (nI row) (nI (nfirst row)) ∧ PR le' sh' r' ∧ WR le0 wl' wr' le' side' ∧ Keep 20 r r' := by
  have hf : nfirst (row + 1) ≤ 10 := by
    have : ∀ r : Fin 4, nfirst (r.val + 1) ≤ 10 := by decide
    exact this ⟨row, hr⟩
  intro d
  induction d with
  | zero =>
    intro k q q' pushed wl wr le sh r side hk hq hq' hP hW
    obtain ⟨q, rfl⟩ : ∃ z, q = z + 1 := ⟨q - 1, by omega⟩
    obtain ⟨q', rfl⟩ : ∃ z, q' = z + 1 := ⟨q' - 1, by omega⟩
    have hk : k = nfirst (row + 1) := by omega
    subst hk
    refine ⟨pushed, wl, wr, le, sh, side, r, ?_, ?_, hP, hW, Keep.refl⟩
    · show (if _ then _ else _) = _
      rw [if_pos (Int32.le_refl _)]
    · show (fn_X8_firstOf (nI row + 1)).bind _ = _
      rw [nI_1, firstOf_m (by omega)]
      simp only [kbs]
      rw [if_pos (Int32.le_refl _), firstOf_m (by omega), kbs]
  | succ d ih =>
    intro k q q' pushed wl wr le sh r side hk hq hq' hP hW
    obtain ⟨q, rfl⟩ : ∃ z, q = z + 1 := ⟨q - 1, by omega⟩
    obtain ⟨q', rfl⟩ : ∃ z, q' = z + 1 := ⟨q' - 1, by omega⟩
    have hk10 : k < 10 := by omega
    have hlt : ¬ nI (nfirst (row + 1)) ≤ nI k := nI_ge (by omega) (by omega)
    have e47 : fn_X2_meetBall_47 K (q + 1) wl wr le sh B D pushed F (nI row) p (nI (nfirst (row + 1))) (nI k) = (fn_X2_meet wl wr le sh (nI k) p).bind fun o60 => fn_X2_meetBall_47 K q o60.2.1 o60.2.2.1 o60.2.2.2.1 o60.2.2.2.2 B D (pushed + o60.1) F (nI row) p (nI (nfirst (row + 1))) (nI k + 1) := by
      show (if _ then _ else _) = _
      rw [if_neg hlt]
    have e54 : fn_X8_ball_54 K' (q' + 1) side r B D pushed (nI row) p (nI k) = if r k = 4 then fn_X8_ball_54 K' q' side r B D pushed (nI row) p (nI k + 1) else (fn_X8_meet side r (nI k) p).bind fun o84 => fn_X8_ball_54 K' q' o84.2.1 o84.2.2 B D (pushed + o84.1) (nI row) p (nI k + 1) := by
      show (fn_X8_firstOf (nI row + 1)).bind _ = _
      rw [nI_1, firstOf_m (by omega)]
      simp only [kbs]
      rw [if_neg hlt, ix_add0, if_neg (nI_in (N := 79) (by omega) (by omega)), nI_clamp (by omega)]
      simp only [fn_X8_ball_90]
    rw [e47, e54, (hP k hk10).1, nI_1]
    by_cases h4 : le k = 4
    · rw [if_pos h4]
      have : fn_X2_meet wl wr le sh (nI k) p = some (0, wl, wr, le, sh) := by
        unfold fn_X2_meet
        rw [isUp_c hk10, h4]
        rfl
      rw [this]
      simp only [kbs, Int32.add_zero]
      exact ih (k + 1) q q' pushed wl wr le sh r side (by omega) (by omega) (by omega) hP hW
    · rw [if_neg h4]
      obtain ⟨a, wl', wr', le', sh', side', r', f1, f2, f3, f4, f5⟩ := sim_meet (p := p) hk10 hP hW h4
      rw [f1, f2]
      simp only [kbs]
      obtain ⟨pushed', wl2, wr2, le2, sh2, side2, r2, g1, g2, g3, g4, g5⟩ := ih (k + 1) q q' (pushed + a) wl' wr' le' sh' r' side' (by omega) (by omega) (by omega) f3 f4
      exact ⟨pushed', wl2, wr2, le2, sh2, side2, r2, g1, g2, g3, g4, f5.trans g5⟩
/-- the pins of a row push those behind -/
theorem sim_rowP {le0 : kF} {K : Int32 → Int32 → kF → kF → Int32 → Int32 → Int32 → Int32 → Int32 → Option (Int32 × Int32 × kF × kF)} {K' : kF → kF → Int32 → Int32 → Int32 → Int32 → Option (kF × kF)} {row : Nat} (hr : row < 3) {B D pushed : Int32} {sh : kF} :
    ∀ (d k q q' : Nat) (wl wr : Int32) (le r side : kF), k + d = nfirst (row + 1) → nfirst row ≤ k → d < q → d < q' → PR le sh r → WR le0 wl wr le side →
      ∃ (wl' wr' : Int32) (le' side' r' : kF), fn_X2_meetBall_75 K q wl wr le sh B D pushed (nI row) (nI (nfirst (row + 1))) (nI k) = K wl' wr' le' sh B D pushed (nI (nfirst (row + 1))) (nI (row + 1)) ∧
        fn_X8_ball_103 K' q' side r B D pushed (nI row) (nI k) = K' side' r' B D pushed (nI (row + 1)) ∧ PR le' sh r' ∧ WR le0 wl' wr' le' side' ∧ Keep 20 r r' := by
  have hf : nfirst (row + 1) ≤ 6 := by
    have : ∀ r : Fin 3, nfirst (r.val + 1) ≤ 6 := by decide
    exact this ⟨row, hr⟩
  intro d
  induction d with
  | zero =>
    intro k q q' wl wr le r side hk hk0 hq hq' hP hW
    obtain ⟨q, rfl⟩ : ∃ z, q = z + 1 := ⟨q - 1, by omega⟩
    obtain ⟨q', rfl⟩ : ∃ z, q' = z + 1 := ⟨q' - 1, by omega⟩
    have hk : k = nfirst (row + 1) := by omega
    subst hk
    refine ⟨wl, wr, le, side, r, ?_, ?_, hP, hW, Keep.refl⟩
    · show (if _ then _ else _) = _
      rw [if_pos (Int32.le_refl _), nI_1]
    · show (fn_X8_firstOf (nI row + 1)).bind _ = _
      rw [nI_1, firstOf_m (by omega)]
      simp only [kbs]
      rw [if_pos (Int32.le_refl _)]
      unfold fn_X8_ball_134
      rw [nI_1]
  | succ d ih =>
    intro k q q' wl wr le r side hk hk0 hq hq' hP hW
    obtain ⟨q, rfl⟩ : ∃ z, q = z + 1 := ⟨q - 1, by omega⟩
    obtain ⟨q', rfl⟩ : ∃ z, q' = z + 1 := ⟨q' - 1, by omega⟩
    have hk6 : k < 6 := by omega
    have hrow : nrow k = row := by
      have : ∀ (r : Fin 3) (k : Fin 6), nfirst r.val ≤ k.val → k.val < nfirst (r.val + 1) → nrow k.val = r.val := by decide
      exact this ⟨row, hr⟩ ⟨k, hk6⟩ hk0 (by show k < nfirst (row + 1); omega)
    have hlt : ¬ nI (nfirst (row + 1)) ≤ nI k := nI_ge (by omega) (by omega)
    have e75 : fn_X2_meetBall_75 K (q + 1) wl wr le sh B D pushed (nI row) (nI (nfirst (row + 1))) (nI k) = (fn_X2_pushBehind wl wr le (nI k) (nI k + nI row + 1)).bind fun o92 => fn_X2_meetBall_75 K q o92.1 o92.2.1 o92.2.2 sh B D pushed (nI row) (nI (nfirst (row + 1))) (nI k + 1) := by
      show (if _ then _ else _) = _
      rw [if_neg hlt]
    have e103 : fn_X8_ball_103 K' (q' + 1) side r B D pushed (nI row) (nI k) = (fn_X8_pushFrom side r (nI k)).bind fun o125 => fn_X8_ball_103 K' q' o125.1 o125.2 B D pushed (nI row) (nI k + 1) := by
      show (fn_X8_firstOf (nI row + 1)).bind _ = _
      rw [nI_1, firstOf_m (by omega)]
      simp only [kbs]
      rw [if_neg hlt, if_neg (show ¬ (3 : Int32) ≤ nI row from ix_ge (n := 3) hr (by omega))]
    rw [e75, e103, ix_add, nI_1, nI_1]
    obtain ⟨wl', wr', le', side', r', f1, f2, f3, f4, f5⟩ := sim_push hk6 hP hW
    rw [hrow] at f1
    rw [f1, f2]
    simp only [kbs]
    obtain ⟨wl2, wr2, le2, side2, r2, g1, g2, g3, g4, g5⟩ := ih (k + 1) q q' wl' wr' le' r' side' (by omega) (by omega) (by omega) (by omega) f3 f4
    exact ⟨wl2, wr2, le2, side2, r2, g1, g2, g3, g4, f5.trans g5⟩
