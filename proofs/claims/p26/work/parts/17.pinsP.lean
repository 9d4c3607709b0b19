/-! pins: class and reference -/
def lvok (x : Int32) : Prop := x = 0 ∨ x = 1 ∨ x = 2 ∨ x = 3 ∨ x = 4
def shok (x : Int32) : Prop := x = -2 ∨ x = -1 ∨ x = 0 ∨ x = 1 ∨ x = 2
theorem ix_neg {k : Nat} (h : k < 2 ^ 31) : ¬ nI k < 0 := nI_pos h
theorem ix_ge {k n : Nat} (h : k < n) (hn : n < 2 ^ 31) : ¬ nI n ≤ nI k := nI_ge h hn
theorem ix_add0 (k : Nat) : (0 : Int32) + nI k = nI k := Int32.zero_add _
theorem ix_add (n k : Nat) : nI n + nI k = nI (n + k) := nI_add n k
theorem bnd {k n : Nat} (h : k < n) (hn : n < 2 ^ 31) : (nI k < 0 ∨ n ≤ (nI k).toNatClampNeg) = False := eq_false (nI_in h hn)
theorem lv_lt4 {x : Int32} (h : lvok x) (h4 : x ≠ 4) : x < 4 := by
  rcases h with rfl | rfl | rfl | rfl | rfl <;> first | decide | exact absurd rfl h4
theorem isUp_c {le : kF} {k : Nat} (hk : k < 10) : fn_X2_isUp le (nI k) = some (if (4 : Int32) ≤ le k then 0 else 1) := by
  have h1 : ¬ nI k < 0 := ix_neg (by omega)
  have h2 : ¬ (10 : Int32) ≤ nI k := ix_ge (n := 10) hk (by omega)
  unfold fn_X2_isUp
  rw [if_neg h1, if_neg h2, if_neg (nI_in hk (by omega)), nI_clamp (by omega)]
  split <;> rfl
theorem lean_c {wl wr : Int32} {le : kF} {k : Nat} {n off : Int32} (hk : k < 10) (hl : le k < 4) : fn_X2_leanMore wl wr le (nI k) n off =
    if 3 < le k + n then some (if 0 < off then wl else wl ||| nI (2 ^ k), if off < 0 then wr else wr ||| nI (2 ^ k), upd le k 4) else some (wl, wr, upd le k (le k + n)) := by
  have h1 : ¬ nI k < 0 := ix_neg (by omega)
  have h2 : ¬ (10 : Int32) ≤ nI k := ix_ge (n := 10) hk (by omega)
  unfold fn_X2_leanMore
  rw [if_neg h1, if_neg h2, if_neg (nI_in hk (by omega)), nI_clamp (by omega), if_pos hl, n_shl1 hk]
  simp only [if_neg (show ¬ (nI k < 0 ∨ 10 ≤ k) from fun z => z.elim h1 (by omega)), fn_X2_leanMore_67, fn_X2_leanMore_83]
  by_cases h3 : 3 < le k + n
  · simp only [if_pos h3]
    by_cases h4 : 0 < off <;> by_cases h5 : off < 0 <;> simp [h4, h5, n_shl1 hk]
  · simp only [if_neg h3]
theorem lean_m {side r : kF} {k : Nat} {n to : Int32} (hk : k < 10) : fn_X8_leanMore side r (nI k) n to =
    if r k + n ≤ 3 then some (side, upd r k (r k + n)) else some (upd side k to, upd r k 4) := by
  have h1 : ¬ nI k < 0 := ix_neg (by omega)
  unfold fn_X8_leanMore
  rw [ix_add0, if_neg (nI_in (N := 79) (by omega) (by omega)), nI_clamp (by omega)]
  simp only [if_neg (show ¬ (nI k < 0 ∨ 79 ≤ k) from fun z => z.elim h1 (by omega)), if_neg (show ¬ (nI k < 0 ∨ 10 ≤ k) from fun z => z.elim h1 (by omega)), fn_X8_leanMore_37]
theorem board_c {sh : kF} {k : Nat} (hk : k < 10) : fn_X2_boardOf sh (nI k) = some (kHB k + sh k) := by
  have h1 : ¬ nI k < 0 := ix_neg (by omega)
  have h2 : ¬ (10 : Int32) ≤ nI k := ix_ge (n := 10) hk (by omega)
  unfold fn_X2_boardOf
  rw [if_neg h1, if_neg h2, if_neg (nI_in hk (by omega)), if_neg (nI_in hk (by omega)), nI_clamp (by omega)]
  rfl
/-- the row of a pin, the first of a row -/
def nrow (k : Nat) : Nat := if k = 0 then 0 else if k < 3 then 1 else if k < 6 then 2 else 3
def nfirst (row : Nat) : Nat := row * (row + 1) / 2
theorem rowOf_m {k : Nat} (hk : k < 10) : fn_X8_rowOf (nI k) = some (nI (nrow k)) := by
  have : ∀ k : Fin 10, fn_X8_rowOf (nI k.val) = some (nI (nrow k.val)) := by decide +kernel
  exact this ⟨k, hk⟩
theorem firstOf_m {row : Nat} (h : row < 5) : fn_X8_firstOf (nI row) = some (nI (nfirst row)) := by
  have : ∀ k : Fin 5, fn_X8_firstOf (nI k.val) = some (nI (nfirst k.val)) := by decide +kernel
  exact this ⟨row, h⟩
theorem board_m {r : kF} {k : Nat} (hk : k < 10) : fn_X8_boardOf r (nI k) = some (kHB k + r (10 + k)) := by
  unfold fn_X8_boardOf
  rw [rowOf_m hk]
  simp only [kbs]
  rw [firstOf_m (show nrow k < 5 by unfold nrow; split <;> (try split) <;> (try split) <;> omega)]
  simp only [kbs]
  rw [show (10 : Int32) = nI 10 from rfl, ix_add, if_neg (nI_in (N := 79) (by omega) (by omega)), nI_clamp (by omega)]
  have : ∀ k : Fin 10, (20 : Int32) - (3 : Int32) * nI (nrow k.val) + (6 : Int32) * (nI k.val - nI (nfirst (nrow k.val))) = kHB k.val := by decide +kernel
  rw [this ⟨k, hk⟩]
theorem lcmp_lt {x y : Int64} : (lg_cmp x y < 0) ↔ x < y := by
  unfold lg_cmp
  by_cases h1 : y < x
  · simp only [h1, if_true]
    constructor
    · intro h; exact absurd h (by decide)
    · intro h; exact absurd (Int64.lt_trans h h1) (Int64.lt_irrefl)
  · by_cases h2 : x = y
    · subst h2; simp [Int64.lt_irrefl]
    · have : x < y := by
        rcases Int64.lt_or_le x y with h | h
        · exact h
        · rcases Int64.lt_or_eq_of_le h with h | h
          · exact absurd h h1
          · exact absurd h.symm h2
      simp [h1, h2, this]
theorem lcmp_gt {x y : Int64} : (0 < lg_cmp x y) ↔ y < x := by
  unfold lg_cmp
  by_cases h1 : y < x
  · simp only [h1, if_true]
    exact ⟨fun _ => trivial, fun _ => by decide⟩
  · by_cases h2 : x = y
    · subst h2; simp [Int64.lt_irrefl]
    · simp only [h1, h2, if_false, iff_false]
      decide
theorem t64_lt {x y : Int32} : x.toInt64 < y.toInt64 ↔ x < y := by
  rw [Int64.lt_iff_toInt_lt, Int32.lt_iff_toInt_lt, Int32.toInt_toInt64, Int32.toInt_toInt64]
theorem in_m {x lo hi : Int32} : fn_X8_in x.toInt64 lo.toInt64 hi.toInt64 = some (if lo ≤ x ∧ x ≤ hi then 1 else 0) := by
  unfold fn_X8_in
  by_cases h1 : x < lo
  · rw [if_pos (lcmp_lt.mpr (t64_lt.mpr h1)), if_neg (fun h => Int32.not_le.mpr h1 h.1)]
    rfl
  · rw [if_neg (fun h => h1 (t64_lt.mp (lcmp_lt.mp h)))]
    by_cases h2 : hi < x
    · rw [if_pos (lcmp_gt.mpr (t64_lt.mpr h2)), if_neg (fun h => Int32.not_le.mpr h2 h.2)]
      rfl
    · rw [if_neg (fun h => h2 (t64_lt.mp (lcmp_gt.mp h))), if_pos ⟨Int32.not_lt.mp h1, Int32.not_lt.mp h2⟩]
      rfl
/-- the pins of both, at a ball -/
def PR (le sh : kF) (r : kF) : Prop := ∀ k, k < 10 → r k = le k ∧ r (10 + k) = sh k ∧ lvok (le k) ∧ shok (sh k)
def WP (a b : Bool) (l l0 : Int32) : Prop := (l ≠ 4 → a = false ∧ b = false ∧ l0 ≠ 4) ∧ (l = 4 → ((a || b) = true ↔ l0 ≠ 4))
def WR (le0 : kF) (wl wr : Int32) (le side : kF) : Prop := ∃ a b : Nat, wl = nI a ∧ wr = nI b ∧ a < 1024 ∧ b < 1024 ∧ ∀ k, k < 10 → side k = nI ((if a.testBit k then 1 else 0) + (if b.testBit k then 2 else 0)) ∧ WP (a.testBit k) (b.testBit k) (le k) (le0 k)
/-- what of the row stays at a ball: all but the leanings and the shifts -/
def Keep (lo : Nat) (r r' : kF) : Prop := ∀ i, lo ≤ i → r' i = r i
theorem Keep.refl {lo : Nat} {r : kF} : Keep lo r r := fun _ _ => rfl
theorem Keep.trans {lo : Nat} {r r' r'' : kF} (h : Keep lo r r') (h2 : Keep lo r' r'') : Keep lo r r'' := fun i hi => (h2 i hi).trans (h i hi)
theorem upd_self {f : kF} {k : Nat} {x : Int32} : upd f k x k = x := if_pos rfl
theorem upd_ne {f : kF} {k j : Nat} {x : Int32} (h : j ≠ k) : upd f k x j = f j := if_neg h
theorem Keep.upd {lo k : Nat} {r : kF} {x : Int32} (h : k < lo) : Keep lo r (upd r k x) := fun i hi => upd_ne (by omega)
theorem or_bit {a k j : Nat} : (a ||| 2 ^ k).testBit j = (a.testBit j || decide (j = k)) := by
  rw [Nat.testBit_or, Nat.testBit_two_pow]
  congr 1
  by_cases h : k = j
  · simp [h]
  · simp [h, Ne.symm h]
theorem or_lt {a k : Nat} (ha : a < 1024) (hk : k < 10) : a ||| 2 ^ k < 1024 := by
  have h : 2 ^ k < 2 ^ 10 := Nat.pow_lt_pow_right (by omega) hk
  exact Nat.or_lt_two_pow (n := 10) ha h
theorem WR_set {le0 : kF} {wl wr : Int32} {le side : kF} {k : Nat} (hk : k < 10) (hW : WR le0 wl wr le side) (h4 : le k ≠ 4) (x y : Bool) (hxy : (x || y) = true) :
    WR le0 (if x then wl ||| nI (2 ^ k) else wl) (if y then wr ||| nI (2 ^ k) else wr) (upd le k 4) (upd side k (nI ((if x then 1 else 0) + (if y then 2 else 0)))) := by
  obtain ⟨a, b, rfl, rfl, ha, hb, hs⟩ := hW
  obtain ⟨hs1, hs2, hs3⟩ := hs k hk
  obtain ⟨hak, hbk, h0⟩ := hs2 h4
  refine ⟨if x then a ||| 2 ^ k else a, if y then b ||| 2 ^ k else b, ?_, ?_, ?_, ?_, fun j hj => ?_⟩
  · cases x
    · rfl
    · exact n_or _ _
  · cases y
    · rfl
    · exact n_or _ _
  · cases x
    · exact ha
    · exact or_lt ha hk
  · cases y
    · exact hb
    · exact or_lt hb hk
  · have e1 : (if x then a ||| 2 ^ k else a).testBit j = if j = k then x else a.testBit j := by
      cases x
      · by_cases e : j = k
        · subst e; simpa using hak
        · simp [e]
      · simp only [if_true, or_bit]
        by_cases e : j = k <;> simp [e]
    have e2 : (if y then b ||| 2 ^ k else b).testBit j = if j = k then y else b.testBit j := by
      cases y
      · by_cases e : j = k
        · subst e; simpa using hbk
        · simp [e]
      · simp only [if_true, or_bit]
        by_cases e : j = k <;> simp [e]
    rw [e1, e2]
    by_cases e : j = k
    · subst e
      simp only [if_true, upd_self]
      refine ⟨trivial, fun h => absurd rfl h, fun _ => ?_⟩
      rw [hxy]
      exact ⟨fun _ => h0, fun _ => rfl⟩
    · simp only [if_neg e]
      rw [upd_ne e, upd_ne e]
      exact hs j hj
theorem WR_same {le0 : kF} {wl wr : Int32} {le side : kF} {k : Nat} {v : Int32} (hW : WR le0 wl wr le side) (h4 : le k ≠ 4) (hv : v ≠ 4) : WR le0 wl wr (upd le k v) side := by
  obtain ⟨a, b, h1, h2, ha, hb, hs⟩ := hW
  refine ⟨a, b, h1, h2, ha, hb, fun j hj => ?_⟩
  by_cases e : j = k
  · subst e
    rw [upd_self]
    exact ⟨(hs j hj).1, fun _ => (hs j hj).2.1 h4, fun h => absurd h hv⟩
  · rw [upd_ne e]
    exact hs j hj
theorem PR.lean {le sh r : kF} {k : Nat} {v : Int32} (hP : PR le sh r) (hv : lvok v) : PR (upd le k v) sh (upd r k v) ∨ 10 ≤ k := by
  by_cases hk : k < 10
  · left
    intro j hj
    by_cases e : j = k
    · subst e
      rw [upd_self, upd_self, upd_ne (by omega)]
      obtain ⟨h1, h2, h3, h5⟩ := hP j hj
      exact ⟨rfl, h2, hv, h5⟩
    · rw [upd_ne e, upd_ne e, upd_ne (by omega)]
      exact hP j hj
  · right; omega
theorem PR.lean' {le sh r : kF} {k : Nat} {v : Int32} (hk : k < 10) (hP : PR le sh r) (hv : lvok v) : PR (upd le k v) sh (upd r k v) := (hP.lean hv).resolve_right (by omega)
/-- a pin leans more: both alike -/
theorem sim_lean {le0 : kF} {wl wr : Int32} {le sh r side : kF} {k : Nat} {n off to : Int32} (hk : k < 10) (hP : PR le sh r) (hW : WR le0 wl wr le side) (h4 : le k ≠ 4) (hn : n = 1 ∨ n = 2) (hto : (0 < off ∧ to = 2) ∨ (off < 0 ∧ to = 1)) :
    ∃ (wl' wr' : Int32) (le' side' r' : kF), fn_X2_leanMore wl wr le (nI k) n off = some (wl', wr', le') ∧ fn_X8_leanMore side r (nI k) n to = some (side', r') ∧ PR le' sh r' ∧ WR le0 wl' wr' le' side' ∧ Keep 20 r r' := by
  obtain ⟨h1, h2, h3, h5⟩ := hP k hk
  have hlt := lv_lt4 h3 h4
  have hcase : (3 < le k + n) ∨ (¬ 3 < le k + n ∧ lvok (le k + n) ∧ le k + n ≠ 4) := by
    rcases h3 with h | h | h | h | h <;> rcases hn with rfl | rfl <;> rw [h] <;> first | exact absurd h h4 | (left; decide) | (right; refine ⟨by decide, ?_, by decide⟩; unfold lvok; decide)
  rcases hcase with hc | ⟨hc, hok, hne⟩
  · have hm : ¬ r k + n ≤ 3 := by rw [h1]; exact Int32.not_le.mpr hc
    rw [lean_c hk hlt, lean_m hk, if_pos hc, if_neg hm]
    refine ⟨_, _, _, _, _, rfl, rfl, hP.lean' hk (by unfold lvok; decide), ?_, Keep.upd (by omega)⟩
    rcases hto with ⟨ho, rfl⟩ | ⟨ho, rfl⟩
    · have ho2 : ¬ off < 0 := fun h => Int32.lt_irrefl (Int32.lt_trans ho h)
      rw [if_pos ho, if_neg ho2]
      exact WR_set hk hW h4 false true rfl
    · have ho2 : ¬ 0 < off := fun h => Int32.lt_irrefl (Int32.lt_trans ho h)
      rw [if_neg ho2, if_pos ho]
      exact WR_set hk hW h4 true false rfl
  · have hm : r k + n ≤ 3 := by rw [h1]; exact Int32.not_lt.mp hc
    rw [lean_c hk hlt, lean_m hk, if_neg hc, if_pos hm]
    refine ⟨_, _, _, _, _, rfl, rfl, ?_, WR_same hW h4 hne, Keep.upd (by omega)⟩
    rw [h1]
    exact hP.lean' hk hok
theorem lean_c4 {wl wr : Int32} {le : kF} {k : Nat} {n off : Int32} (h : le k = 4 ∨ 10 ≤ k) (hk : k < 2 ^ 31) : fn_X2_leanMore wl wr le (nI k) n off = some (wl, wr, le) := by
  have h1 : ¬ nI k < 0 := ix_neg hk
  unfold fn_X2_leanMore
  rw [if_neg h1]
  by_cases h2 : 10 ≤ k
  · rw [if_pos (show (10 : Int32) ≤ nI k from nI_le (a := 10) h2 hk)]; rfl
  · rw [if_neg (show ¬ (10 : Int32) ≤ nI k from ix_ge (n := 10) (by omega) (by omega)), if_neg (nI_in (by omega) (by omega)), nI_clamp hk, if_neg]
    · rfl
    · rw [h.resolve_right h2]; decide
