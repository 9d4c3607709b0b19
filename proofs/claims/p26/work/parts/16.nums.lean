/-! numbers: Int32 by Nat -/
theorem nl_0 : (0 : Int32) = nI 0 := rfl
theorem n_and (a b : Nat) : nI a &&& nI b = nI (a &&& b) := by
  apply Int32.toBitVec_inj.mp
  show BitVec.ofNat 32 a &&& BitVec.ofNat 32 b = BitVec.ofNat 32 (a &&& b)
  exact BitVec.ofNat_and.symm
theorem n_or (a b : Nat) : nI a ||| nI b = nI (a ||| b) := by
  apply Int32.toBitVec_inj.mp
  show BitVec.ofNat 32 a ||| BitVec.ofNat 32 b = BitVec.ofNat 32 (a ||| b)
  exact BitVec.ofNat_or.symm
theorem n_xor (a b : Nat) : nI a ^^^ nI b = nI (a ^^^ b) := by
  apply Int32.toBitVec_inj.mp
  show BitVec.ofNat 32 a ^^^ BitVec.ofNat 32 b = BitVec.ofNat 32 (a ^^^ b)
  exact BitVec.ofNat_xor.symm
theorem n_m1 : (-1 : Int32) = nI 4294967295 := by decide
theorem n_shl1 {k : Nat} (h : k < 10) : (1 : Int32) <<< (nI k &&& 31) = nI (2 ^ k) := by
  have : ∀ k : Fin 10, (1 : Int32) <<< (nI k.val &&& 31) = nI (2 ^ k.val) := by decide +kernel
  exact this ⟨k, h⟩
theorem n_bit {M k : Nat} (hM : M < 1024) (h : k < 10) : (nI M >>> (nI k &&& 31)) &&& (1 : Int32) = nI (if M.testBit k then 1 else 0) := by
  have : ∀ (k : Fin 10), (nI k.val &&& 31) = nI k.val := by decide +kernel
  rw [this ⟨k, h⟩]
  have h2 : nI M >>> nI k = nI (M / 2 ^ k) := pk_shrN (by omega) (nI k) k (by have : ∀ k : Fin 10, ((nI k.val).toBitVec.smod 32).toNat = k.val := by decide +kernel
                                                                              exact this ⟨k, h⟩)
  rw [h2, show (1 : Int32) = nI 1 from rfl, n_and, Nat.and_one_is_mod]
  congr 1
  rw [Nat.testBit_eq_decide_div_mod_eq]
  rcases Nat.mod_two_eq_zero_or_one (M / 2 ^ k) with e | e <;> simp [e]
/-- the mask of a property of the first n numbers -/
def nmask (P : Nat → Bool) : Nat → Nat
  | 0 => 0
  | n + 1 => nmask P n ||| (if P n then 2 ^ n else 0)
theorem nmask_bit (P : Nat → Bool) : ∀ (n k : Nat), (nmask P n).testBit k = (decide (k < n) && P k)
  | 0, k => by simp [nmask]
  | n + 1, k => by
    rw [nmask, Nat.testBit_or, nmask_bit P n k]
    by_cases hk : k = n
    · subst hk
      cases h : P k <;> simp [h, Nat.testBit_two_pow_self]
    · have e : (if P n then 2 ^ n else 0 : Nat).testBit k = false := by
        cases P n
        · simp
        · simp [Nat.testBit_two_pow, Ne.symm hk]
      rw [e]
      have : decide (k < n + 1) = decide (k < n) := by
        by_cases h : k < n
        · simp [h, Nat.lt_succ_of_lt h]
        · have : ¬ k < n + 1 := by omega
          simp [h, this]
      rw [this]
      simp
theorem nmask_lt (P : Nat → Bool) (n : Nat) : nmask P n < 2 ^ n := by
  apply Nat.lt_pow_two_of_testBit
  intro i hi
  rw [nmask_bit]
  simp [Nat.not_lt.mpr hi]
theorem mask_ext {a b : Nat} (ha : a < 1024) (hb : b < 1024) (h : ∀ k, k < 10 → a.testBit k = b.testBit k) : a = b := by
  apply Nat.eq_of_testBit_eq
  intro i
  by_cases hi : i < 10
  · exact h i hi
  · have h1 : 2 ^ 10 ≤ 2 ^ i := Nat.pow_le_pow_right (by omega) (by omega)
    rw [Nat.testBit_lt_two_pow (by omega : a < 2 ^ i), Nat.testBit_lt_two_pow (by omega : b < 2 ^ i)]
theorem mask_self {M : Nat} (hM : M < 1024) : nmask (fun k => M.testBit k) 10 = M := by
  apply mask_ext (nmask_lt _ 10) hM
  intro k hk
  rw [nmask_bit]
  simp [hk]
/-- how many bits of the first ten are there -/
def npop (M : Nat) : Nat → Nat
  | 0 => 0
  | n + 1 => npop M n + (if M.testBit n then 1 else 0)
theorem npop_le (M : Nat) : ∀ n, npop M n ≤ n
  | 0 => Nat.le_refl 0
  | n + 1 => by
    have := npop_le M n
    unfold npop
    split <;> omega
theorem bitCount_eq {M : Nat} (hM : M < 1024) : fn_J6_bitCount_0f7a4 (nI M) = some (nI (npop M 10)) := by
  have : ∀ M : Fin 1024, fn_J6_bitCount_0f7a4 (nI M.val) = some (nI (npop M.val 10)) := by decide +kernel
  exact this ⟨M, hM⟩
/-- a step that Lean's kernel shall not try by unfolding -/
theorem kbs {α β : Type} (a : α) (f : α → Option β) : (some a).bind f = f a := by
  have h : ∀ x : Option α, x = some a → x.bind f = f a := by
    intro x hx
    subst hx
    rfl
  exact h _ rfl
