/-! calls and ends of methods that make more than one object; parts of worlds of two decks -/
theorem kSub_nil {w : va_W} : kSub w [] [] w := ⟨fun _ h => absurd h List.not_mem_nil, fun _ => List.nodup_nil, rfl, fun q h => Or.inr ⟨h, fun _ => List.not_mem_nil⟩⟩
theorem kSub_all {w w' : va_W} (h : w'.map (·.1) = w.map (·.1)) : kSub w w w' w' := ⟨fun _ h => h, fun h => h, h, fun _ h => Or.inl h⟩
theorem kSub_l {w w' x : va_W} (h : w'.map (·.1) = w.map (·.1)) : kSub (w ++ x) w w' (w' ++ x) := by
  refine ⟨fun q hq => List.mem_append_left _ hq, fun hn => ?_, ?_, fun q hq => ?_⟩
  · rw [List.map_append] at hn
    exact (List.nodup_append.mp hn).1
  · rw [List.map_append, List.map_append, h]
  · rcases List.mem_append.mp hq with h1 | h1
    · exact Or.inl h1
    · refine Or.inr ⟨List.mem_append_right _ h1, fun hn hq2 => ?_⟩
      rw [List.map_append] at hn
      exact (List.nodup_append.mp hn).2.2 q.1 hq2 q.1 (List.mem_map.mpr ⟨q, h1, rfl⟩) rfl
theorem kSub_r {w w' x : va_W} (h : w'.map (·.1) = w.map (·.1)) : kSub (x ++ w) w w' (x ++ w') := by
  refine ⟨fun q hq => List.mem_append_right _ hq, fun hn => ?_, ?_, fun q hq => ?_⟩
  · rw [List.map_append] at hn
    exact (List.nodup_append.mp hn).2.1
  · rw [List.map_append, List.map_append, h]
  · rcases List.mem_append.mp hq with h1 | h1
    · refine Or.inr ⟨List.mem_append_left _ h1, fun hn hq2 => ?_⟩
      rw [List.map_append] at hn
      exact (List.nodup_append.mp hn).2.2 q.1 (List.mem_map.mpr ⟨q, h1, rfl⟩) q.1 hq2 rfl
    · exact Or.inl h1
theorem dkW_fst2 {cI : Nat → ClassId} {u v : kHad} {d d' z z' : kDk} : (dkW cI u d' ++ dkW cI v z').map (·.1) = (dkW cI u d ++ dkW cI v z).map (·.1) := by
  rw [List.map_append, List.map_append, dkW_fst (u := u) (d := d) (d' := d'), dkW_fst (u := v) (d := z) (d' := z')]
section KH
variable {p : Program} {l : Launch} {e : Env} {R : Room} {s : State} {m : MethodId} {args : Array Value} {below : List Frame} {meth : Method} {c : Code} {H : Heap} {locs : List Loc} {Q : State → Prop}
variable {cc : ByteArray} {pc k nc : Nat} {ls : Array Slot} {rest stk : List Value} {A : Nat → Prop} {D : va_G} {cI : Nat → ClassId} {ws ws' wc wc' : va_W} {own : String} {Ts : List Cond}
variable {y : MethodName} {bytes : ByteArray} {mL nL n index : Nat} {ret : Option FieldType} {wsy : List Cond} {rm : Room} {av : List Value} {r : Int32}
theorem kh_end (hK : KK D cI s) (hG : GS A s s.heap) (hA : ∀ q, s.heap.size ≤ q → A q) {a : Array Value}
    (hP : va_P D vwCl ws H) (hD : va_D A ws) (hS : va_S A s.heap H locs) (hsub : kSub ws wc wc' ws')
    (hr : va_Run p l e R s m args below meth c H locs k (6 * k) nc (6 * nc) (F0 m pc ls stk) rest (kQi D wc wc' H.size r a) (va_A wc H.size))
    (kk : ∀ (H1 : Heap) (locs1 : List Loc), va_P D vwCl ws' H1 → va_D A ws' → va_S A s.heap H1 locs1 → W p l e R s m args below meth c H1 locs1 (k + nc) (6 * (k + nc)) Q (F0 m (pc + 3) ls (.int r :: rest))) :
    W p l e R s m args below meth c H locs k (6 * k) Q (F0 m pc ls stk) := by
  have hF := kfreeS hsub hD hS hA
  refine va_calli hr hS (fun q _ h => hF q h) hF (fun r1 u t H1 locs1 ht hvm hw1 hB hz hk hS1 => ?_)
  subst hw1
  rw [ht] at hB
  obtain ⟨h1, h2⟩ := kjoinS hsub hP hD hk hB
  have h3 := kk H1 locs1 h1 h2 hS1
  rw [Nat.mul_add] at h3
  exact h3
theorem kh_Wi {hh : List (Nat × Nat × Nat × Nat)} (F : CallFix p m c cc nL s args Ts own) (hK : KK D cI s) (hG : GS A s s.heap) (hA : ∀ q, s.heap.size ≤ q → A q)
    (hM : Met l y wsy rm (kPc D cI wc H.size av) (kQi D wc wc' H.size r) nc (6 * nc) (va_A wc H.size)) (cw : vx_CSW R s args own index y bytes mL ret hh wsy rm nc (6 * nc) n)
    (hP : va_P D vwCl ws H) (hD : va_D A ws) (hS : va_S A s.heap H locs) (hsub : kSub ws wc wc' ws')
    (hav : av.length = n) (hl : ls.size = nL) (hstk : stk = av.reverse ++ rest) (hroom : (rest.map fun v => v.category).sum ≤ 8) (hf : k + nc ≤ R.cells ∧ 6 * k + 6 * nc ≤ R.slots) (hdg : decode cc pc = .ok (.invokestatic index, 3))
    (kk : ∀ (H1 : Heap) (locs1 : List Loc), va_P D vwCl ws' H1 → va_D A ws' → va_S A s.heap H1 locs1 → W p l e R s m args below meth c H1 locs1 (k + nc) (6 * (k + nc)) Q (F0 m (pc + 3) ls (.int r :: rest))) :
    W p l e R s m args below meth c H locs k (6 * k) Q (F0 m pc ls stk) :=
  kh_end hK hG hA hP hD hS hsub (vx_runSW F hM cw (kpreS hK hG hA hP hD hS hsub) rfl hav hl hstk (lv_room hroom) hdg hf) kk
theorem kh_Si (F : CallFix p m c cc nL s args Ts own) (hK : KK D cI s) (hG : GS A s s.heap) (hA : ∀ q, s.heap.size ≤ q → A q)
    (hM : Met l y wsy rm (kPc D cI wc H.size av) (kQi D wc wc' H.size r) nc (6 * nc) (va_A wc H.size)) (cw : CallB R s args own index y bytes mL ret wsy rm nc (6 * nc) n ∧ (Cond.static y).before args s = true)
    (hP : va_P D vwCl ws H) (hD : va_D A ws) (hS : va_S A s.heap H locs) (hsub : kSub ws wc wc' ws')
    (hav : av.length = n) (hl : ls.size = nL) (hstk : stk = av.reverse ++ rest) (hroom : (rest.map fun v => v.category).sum ≤ 8) (hf : k + nc ≤ R.cells ∧ 6 * k + 6 * nc ≤ R.slots) (hdg : decode cc pc = .ok (.invokestatic index, 3))
    (kk : ∀ (H1 : Heap) (locs1 : List Loc), va_P D vwCl ws' H1 → va_D A ws' → va_S A s.heap H1 locs1 → W p l e R s m args below meth c H1 locs1 (k + nc) (6 * (k + nc)) Q (F0 m (pc + 3) ls (.int r :: rest))) :
    W p l e R s m args below meth c H locs k (6 * k) Q (F0 m pc ls stk) :=
  kh_end hK hG hA hP hD hS hsub (va_runS F hM cw (kpreS hK hG hA hP hD hS hsub) rfl hav hl hstk (lv_room hroom) hdg hf) kk
end KH
section KHM
variable {l : Launch} {y : MethodName} {ws ws' : List Cond} {rm : Room} {cc : ByteArray} {maxL nc : Nat} {D : va_G} {cI : Nat → ClassId} {w w' : va_W} {av : List Value} {sz : Nat}
theorem kM_hi {r : Int32} (hy : plainFor y = true) (hw : ws = Cond.code y cc maxL (some .int) :: ws') (hal : (lg_sl av).length ≤ maxL)
    (body : ∀ (p : Program) (e : Env) (s : State) (m : MethodId) (args : Array Value) (below : List Frame) (meth : Method) (c : Code) (A : Nat → Prop) (Q : State → Prop), CallFix p m c cc maxL s args ws y.cls → KK D cI s → GS A s s.heap → va_D A w → (∀ q, s.heap.size ≤ q → A q) →
      (∀ (H : Heap) (locs : List Loc) (ls : Array Slot) (pc : Nat), va_P D vwCl w' H → va_S A s.heap H locs → decode cc pc = .ok (.ireturn, 1) → W p l e rm s m args below meth c H locs nc (6 * nc) Q (F0 m pc ls [.int r])) →
      ∀ ls : Array Slot, va_P D vwCl w s.heap → va_S A s.heap s.heap [] → lv_has ls maxL (lv_args 0 av) → W p l e rm s m args below meth c s.heap [] 0 (6 * 0) Q (F0 m 0 ls [])) :
    Met l y ws rm (kPc D cI w sz av) (kQi D w w' sz r) nc (6 * nc) (va_A w sz) := by
  refine k_ofW (cc := cc) (maxL := maxL) (ret := some .int) hy hw ?_
  intro p e s m args below meth c s₁ B hml hv
  obtain ⟨rfl, hsz, hP, hK, hG, hD0⟩ := hv
  subst hsz
  have hlocks := B.notSynchronized
  have hl := lv_entry av (n := maxL) hal
  rw [lg_entry_eq]
  exact body p e s m av.toArray below meth c _ _ ⟨B.exec, B.bytes, hml, findClass_of_methodNamed B.named, atoms_spec (ws := ws) B.pre⟩ hK hG (hD0.self (sz := s.heap.size)) (fun q h => Or.inr h)
    (fun H locs ls pc hP2 hS d => W.iret (v := r) B.exec B.bytes B.returns (fun t ht hW => ⟨⟨r, (), rfl, rfl, by show va_P D vwCl w' t.heap; rw [ht]; exact hP2⟩, hS.F ht⟩) hS.2.2 d) _ hP va_S.rf hl
theorem kM_hz {r : Int32} (hy : plainFor y = true) (hw : ws = Cond.code y cc maxL (some .boolean) :: ws') (hal : (lg_sl av).length ≤ maxL)
    (body : ∀ (p : Program) (e : Env) (s : State) (m : MethodId) (args : Array Value) (below : List Frame) (meth : Method) (c : Code) (A : Nat → Prop) (Q : State → Prop), CallFix p m c cc maxL s args ws y.cls → KK D cI s → GS A s s.heap → va_D A w → (∀ q, s.heap.size ≤ q → A q) →
      (∀ (H : Heap) (locs : List Loc) (ls : Array Slot) (pc : Nat), r = 0 ∨ r = 1 → va_P D vwCl w' H → va_S A s.heap H locs → decode cc pc = .ok (.ireturn, 1) → W p l e rm s m args below meth c H locs nc (6 * nc) Q (F0 m pc ls [.int r])) →
      ∀ ls : Array Slot, va_P D vwCl w s.heap → va_S A s.heap s.heap [] → lv_has ls maxL (lv_args 0 av) → W p l e rm s m args below meth c s.heap [] 0 (6 * 0) Q (F0 m 0 ls [])) :
    Met l y ws rm (kPc D cI w sz av) (kQi D w w' sz r) nc (6 * nc) (va_A w sz) := by
  refine k_ofW (cc := cc) (maxL := maxL) (ret := some .boolean) hy hw ?_
  intro p e s m args below meth c s₁ B hml hv
  obtain ⟨rfl, hsz, hP, hK, hG, hD0⟩ := hv
  subst hsz
  have hlocks := B.notSynchronized
  have hl := lv_entry av (n := maxL) hal
  rw [lg_entry_eq]
  exact body p e s m av.toArray below meth c _ _ ⟨B.exec, B.bytes, hml, findClass_of_methodNamed B.named, atoms_spec (ws := ws) B.pre⟩ hK hG (hD0.self (sz := s.heap.size)) (fun q h => Or.inr h)
    (fun H locs ls pc hr hP2 hS d => W.zret (v := r) B.exec B.bytes B.returns (by rcases hr with rfl | rfl <;> rfl) (fun t ht hW => ⟨⟨r, (), rfl, rfl, by show va_P D vwCl w' t.heap; rw [ht]; exact hP2⟩, hS.F ht⟩) hS.2.2 d) _ hP va_S.rf hl
end KHM
/-! a cell of the script -/
def kPx (b L : Nat) (xs : Nat → Int32) (i : Int32) : Array Value → State → Prop := va_Pc [.ref b, .int i] (fun U => va_X b L xs U U.heap ∧ b < U.heap.size)
theorem kPx_blind {b L : Nat} {xs : Nat → Int32} {i : Int32} : FrameBlind (kPx b L xs i) := fun a U g mk q => by
  obtain ⟨q0, qX, qb⟩ := q
  exact ⟨q0, va_X.moved (u := U) (U := U.calling g mk a) (Vm.Alike.refl U.vm) qX, qb⟩
def kQx1 (L : Nat) (xs : Nat → Int32) (i : Int32) : Array Value → State → Outcome → State → Prop := va_Qi (fun (x : Int32) (_ : Unit) => x = kcell L xs i) (fun _ _ => True) (fun _ => False)
abbrev rm00 : Room := { frames := 0, cells := 0, slots := 0, locals := 0 }
theorem mk_L_cell (l : Launch) {b L : Nat} {xs : Nat → Int32} {i : Int32} (hi : ¬ i < 0) (hL : L ≤ 260) : Met l yL_cell wsL_cell rm00 (kPx b L xs i) (kQx1 L xs i) 0 0 (fun _ => False) := by
  refine k_ofW (cc := cL_cell) (maxL := 2) (ret := some .int) (by decide +kernel) rfl ?_
  intro p e s m args below meth c s₁ B hml hv
  obtain ⟨rfl, hX, hbl⟩ := hv
  have hlocks := B.notSynchronized
  have hx := B.exec
  have hb := B.bytes
  have hown := findClass_of_methodNamed B.named
  have hts := atoms_spec (ws := wsL_cell) B.pre
  have hl := lv_entry ([.ref b, .int i]) (n := 2) (Nat.le_of_ble_eq_true rfl)
  rw [lg_entry_eq]
  generalize (lg_sl ([.ref b, .int i]) ++ List.replicate (2 - (lg_sl ([.ref b, .int i])).length) Slot.unset).toArray = ls at hl ⊢
  have hl : lv_has ls 2 [(0, .ref b), (1, .int i)] := hl
  have hS : va_S (fun _ => False) s.heap s.heap [] := va_S.rf
  have hend : ∀ v : Int32, v &&& 2147483647 = kcell L xs i → W p l e rm00 s m ([Value.ref b, .int i] : List Value).toArray below meth c s.heap [] 0 0 (MQ below (kQx1 L xs i) ([Value.ref b, .int i] : List Value).toArray s 0 0 (fun _ => False)) (F0 m 22 ls [.int v]) := by
    intro v hv
    refine lv_ldc (v := 2147483647) hx hb hown (hts (.constant RL 131 (2147483647 : Int32)) (by decide +kernel)) dL_cell_22 ?_
    refine lv_iand hx hb dL_cell_24 ?_
    exact W.iret (v := v &&& 2147483647) hx hb B.returns (fun t ht hW => ⟨⟨_, (), rfl, hv, trivial⟩, hS.F ht⟩) hS.2.2 dL_cell_25
  refine lv_iload_n hx hb dL_cell_0 rfl (lv_at hl 1 rfl) ?_
  refine lv_aload_n hx hb dL_cell_1 rfl (lv_at hl 0 rfl) ?_
  refine va_slen hx hb hX hbl (fun h => h) hS dL_cell_2 ?_
  refine lv_icmp_ge (tgt := 12) hx hb dL_cell_3 (by decide) (fun c9 => ?_) (fun c9 => ?_)
  · refine lv_ldc (v := 15519053) hx hb hown (hts (.constant RL 130 (15519053 : Int32)) (by decide +kernel)) dL_cell_12 ?_
    refine lv_iload_n hx hb dL_cell_14 rfl (lv_at hl 1 rfl) ?_
    refine lv_iconst (v := 3) hx hb dL_cell_15 (by decide) ?_
    refine lv_iadd hx hb dL_cell_16 ?_
    refine lv_imul hx hb dL_cell_17 ?_
    refine lv_sipush (v := 11243) hx hb dL_cell_18 (by decide) ?_
    refine lv_iadd hx hb dL_cell_21 ?_
    refine hend _ ?_
    unfold kcell
    rw [if_pos c9]
  · have h1 : ¬ (Int32.ofNat L ≤ i) := c9
    obtain ⟨j, hj, rfl⟩ := nI_of2 (M := nI L) (n := L) (nI_toInt (by omega)) hi (Int32.le_of_lt (Int32.not_le.mp h1))
    have hjL : j < L := by
      rcases Nat.lt_or_ge j L with z | z
      · exact z
      · exact absurd (nI_le z (by omega)) h1
    refine lv_aload_n hx hb dL_cell_6 rfl (lv_at hl 0 rfl) ?_
    refine lv_iload_n hx hb dL_cell_7 rfl (lv_at hl 1 rfl) ?_
    refine va_sld hx hb hX hbl (fun h => h) hS (nI_in hjL (by omega)) dL_cell_8 ?_
    refine lv_goto (tgt := 22) hx hb dL_cell_9 (by decide) ?_
    refine hend _ ?_
    unfold kcell
    rw [if_neg h1]
theorem kh_cell {p : Program} {l : Launch} {e : Env} {R : Room} {s : State} {m : MethodId} {args : Array Value} {below : List Frame} {meth : Method} {c : Code} {H : Heap} {locs : List Loc} {Q : State → Prop}
    {cc : ByteArray} {pc cells slots : Nat} {ls : Array Slot} {rest stk : List Value} {A : Nat → Prop} {D : va_G} {ws : va_W} {own : String} {Ts : List Cond} {bytes : ByteArray} {mL nL index : Nat} {ret : Option FieldType} {b L : Nat} {xs : Nat → Int32} {i : Int32}
    (F : CallFix p m c cc nL s args Ts own) (hL : L ≤ 260) (hX : va_X b L xs s s.heap) (hbl : b < s.heap.size) (hbA : ¬ A b) (hi : ¬ i < 0)
    (cw : CallB R s args own index yL_cell bytes mL ret wsL_cell rm00 0 0 2 ∧ (Cond.static yL_cell).before args s = true)
    (hP : va_P D vwCl ws H) (hD : va_D A ws) (hS : va_S A s.heap H locs) (hav : ([.ref b, .int i] : List Value).length = 2) (hl : ls.size = nL) (hstk : stk = ([.ref b, .int i] : List Value).reverse ++ rest) (hroom : (rest.map fun v => v.category).sum ≤ 8) (hf : cells ≤ R.cells ∧ slots ≤ R.slots) (hdg : decode cc pc = .ok (.invokestatic index, 3))
    (kk : ∀ (H1 : Heap) (locs1 : List Loc), va_P D vwCl ws H1 → va_D A ws → va_S A s.heap H1 locs1 → W p l e R s m args below meth c H1 locs1 cells slots Q (F0 m (pc + 3) ls (.int (kcell L xs i) :: rest))) :
    W p l e R s m args below meth c H locs cells slots Q (F0 m pc ls stk) := by
  have hpre : PreS s H (kPx b L xs i) [.ref b, .int i] := ⟨kPx_blind, fun U hU hW => ⟨rfl, by rw [hU]; exact va_X.moved hW.alike (hX.kept (hS.2.1 b hbl hbA)), by rw [hU]; exact Nat.lt_of_lt_of_le hbl hS.1⟩⟩
  refine va_calli (va_runS F (mk_L_cell l hi hL) cw hpre rfl hav hl hstk (lv_room hroom) hdg hf) hS (fun q _ h => h.elim) (fun q h => h.elim) (fun r1 u t H1 locs1 ht hvm hw1 hB hz hk hS1 => ?_)
  subst hw1
  exact kk H1 locs1 (hP.kept (fun k q hq => hk q.1 (hP k q hq).lt (fun h => h))) hD hS1
