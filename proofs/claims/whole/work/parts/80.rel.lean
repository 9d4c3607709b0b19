/-! the law's start, and the claim (written by wip/whole/gen/gen_start.py; the frame is the kit's skeleton) -/
theorem start_rel : ∃ r : kF, fn_X8_clear kZ = some r ∧ LI kS0 kZ 0 0 0 kS0s kZ kS0s 0 0 kZ r kZ kZ kZ := by
  obtain ⟨r1, b1, b2⟩ := clear_loop 79 0 4096 kZ (by omega) (by omega) (fun i hi => absurd hi (Nat.not_lt_zero i))
  obtain ⟨r2, c1, c2, c3⟩ := rack_m (r := upd (upd (upd r1 76 18) 77 2) 78 1)
  have hk : ∀ i, 30 ≤ i → i < 76 → r2 i = 0 := fun i hi hi2 => by rw [c3 i hi, upd_ne (by omega), upd_ne (by omega), upd_ne (by omega)]; exact b2 i (by omega)
  have hr : fn_X8_clear kZ = some r2 := by
    unfold fn_X8_clear
    rw [show (0 : Int32) = nI 0 from rfl, b1, c1, kbs]
  have hX : RX 0 0 0 kSe0 r2 := by
    refine ⟨hk 73 (by omega) (by omega), hk 74 (by omega) (by omega), hk 75 (by omega) (by omega), ?_, ?_, ?_⟩
    · rw [c3 76 (by omega), upd_ne (by omega), upd_ne (by omega), upd_self, show kSe0 0 = 18 by decide +kernel]
    · rw [c3 77 (by omega), upd_ne (by omega), upd_self, show kSe0 1 = 2 by decide +kernel]
    · rw [c3 78 (by omega), upd_self, show kSe0 2 = 1 by decide +kernel]
  have hS : SE kSe0 := by
    refine ⟨?_, ?_⟩
    · rw [show kSe0 0 = 18 by decide +kernel]; decide
    · rw [show kSe0 1 = 2 by decide +kernel]; decide
  have hN : SREL 0 0 0 1023 kZ kZ 0 0 kZ kZ kSe0 r2 := SREL.fresh (fun j _ => ⟨rfl, rfl⟩) c2 (fun i hi hi2 => hk i hi (by omega)) rfl hX hS
  exact ⟨r2, hr, hN, XRel.clear (len := 0) (msize := 0), ⟨0, 0, by omega, by omega, rfl, rfl, rfl, fun j h => absurd h (Nat.not_lt_zero j)⟩, fun i _ => ⟨rfl, fun h => absurd rfl h⟩⟩
theorem iwL_X7 : ∀ w ∈ u_ws RX7 TX7 5, w ∈ wsL_law := by decide +kernel
theorem iwL_X8 : ∀ w ∈ u_ws RX8 TX8 13, w ∈ wsL_law := by decide +kernel
