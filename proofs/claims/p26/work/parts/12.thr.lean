/-! methods that throw, methods that catch, calls of such -/
def kE (c : Int32) : String := if c = 1 then "java/lang/IllegalArgumentException" else if c = 2 then "java/lang/IllegalStateException" else "java/lang/IndexOutOfBoundsException"
abbrev kNm : List String := ["java/lang/RuntimeException", "java/lang/Exception"]
def kQx (D : va_G) (w' : va_W) (A : Nat → Prop) (c r : Int32) : Array Value → State → Outcome → State → Prop := va_Qi (fun (x : Int32) (_ : Unit) => c = 0 ∧ x = r) (fun _ t => va_P D vwCl w' t.heap) A
def kXx (D : va_G) (w' : va_W) (A : Nat → Prop) (c : Int32) : String → State → State → Prop := vx_X (fun _ : Unit => ¬ c = 0) (fun E _ t => E = kE c ∧ va_P D vwCl w' t.heap) A
theorem k_at {L : List Cond} {Ts : List Cond} {args : Array Value} {s : State} (hg : (L.filter (fun w => !goodWord w)).all (fun w => decide (w ∈ kBad)) = true) (h1 : ∀ w ∈ L.filter goodWord, w ∈ Ts) (hts : ∀ w ∈ Ts, w.before args s = true) (hbad : ∀ w ∈ kBad, va_Nw w s) : ∀ w ∈ L, w.before args s = true := fun w hw => by
  cases h : goodWord w with
  | true => exact hts w (h1 w (List.mem_filter.mpr ⟨hw, h⟩))
  | false =>
    have h2 : w ∈ kBad := of_decide_eq_true (List.all_eq_true.mp hg w (List.mem_filter.mpr ⟨hw, by rw [h]; rfl⟩))
    exact va_Nw.use (kBad_tab h2) (hbad w h2)
theorem kgd44 : ((vx_atS RX7 44 "java/lang/IllegalArgumentException" kNm).filter (fun w => !goodWord w)).all (fun w => decide (w ∈ kBad)) = true := by decide +kernel
theorem kgo44 : (Cond.classLink RX7 40 "java/lang/IllegalArgumentException" :: Cond.initialized "java/lang/IllegalArgumentException" :: vx_atS RX7 44 "java/lang/IllegalArgumentException" kNm).all vx_ot = true := by decide +kernel
theorem kgd55 : ((vx_atS RX7 55 "java/lang/IllegalStateException" kNm).filter (fun w => !goodWord w)).all (fun w => decide (w ∈ kBad)) = true := by decide +kernel
theorem kgo55 : (Cond.classLink RX7 51 "java/lang/IllegalStateException" :: Cond.initialized "java/lang/IllegalStateException" :: vx_atS RX7 55 "java/lang/IllegalStateException" kNm).all vx_ot = true := by decide +kernel
theorem kgd138 : ((vx_atS RX7 138 "java/lang/IndexOutOfBoundsException" kNm).filter (fun w => !goodWord w)).all (fun w => decide (w ∈ kBad)) = true := by decide +kernel
theorem kgo138 : (Cond.classLink RX7 134 "java/lang/IndexOutOfBoundsException" :: Cond.initialized "java/lang/IndexOutOfBoundsException" :: vx_atS RX7 138 "java/lang/IndexOutOfBoundsException" kNm).all vx_ot = true := by decide +kernel
theorem kup_same {hs : Nat → kSt} {i : Nat} : kup hs i (hs i) = hs := funext fun j => by unfold kup; by_cases h : j = i; rw [if_pos h, h]; rw [if_neg h]
section KT
variable {p : Program} {l : Launch} {e : Env} {R : Room} {s : State} {m : MethodId} {args : Array Value} {below : List Frame} {meth : Method} {c : Code} {H : Heap} {locs : List Loc} {cells slots : Nat} {Q : State → Prop}
variable {cc : ByteArray} {pc : Nat} {ls : Array Slot} {rest stk : List Value} {A : Nat → Prop} {D : va_G} {cI : Nat → ClassId} {ws ws' wc wc' w' : va_W} {own C host : String} {Ts : List Cond}
variable {y : MethodName} {bytes : ByteArray} {mL nL n index : Nat} {ret : Option FieldType} {wsy : List Cond} {rm : Room} {av : List Value} {b : Nat} {r : Int32}
theorem kthrX {cls : String} {code : Int32} (hP : va_P D vwCl w' H) (hS : va_S A s.heap H locs) (hc : ¬ code = 0) (hE : cls = kE code) : ∀ t : State, s.vm.Alike t.vm → H.size ≤ t.heap.size → (∀ q : Nat, q < H.size → t.heap[q]? = H[q]?) → kXx D w' A code cls s t :=
  fun t _ h1 h2 => ⟨(), hc, ⟨hE, hP.kept (fun k q hk => h2 q.1 (hP k q hk).lt)⟩, Nat.le_trans hS.1 h1, fun q h3 h4 => (h2 q (Nat.lt_of_lt_of_le h3 hS.1)).trans (hS.2.1 q h3 h4)⟩
theorem kthr {Qc : Array Value → State → Outcome → State → Prop} (S : CallFix p m c cc nL s args Ts RX7) (hst : l.stackTraces = false) (hG : GS A s s.heap) (hK : KK D cI s) (htab : ∀ x ∈ c.exceptionTable.toList, False) (hlocks : meth.locks = false)
    {cls text : String} {ik is ic : Nat} {code : Int32} (hfit : Bundle.fit cls = true) (hk : Cond.classLink RX7 ik cls ∈ Ts) (hini : Cond.initialized cls ∈ Ts) (hstr : (is, text) ∈ kStrs) (hat : ∀ w ∈ (vx_atS RX7 ic cls kNm).filter goodWord, w ∈ Ts) (hgd : ((vx_atS RX7 ic cls kNm).filter (fun w => !goodWord w)).all (fun w => decide (w ∈ kBad)) = true) (hgo : (Cond.classLink RX7 ik cls :: Cond.initialized cls :: vx_atS RX7 ic cls kNm).all vx_ot = true)
    (hP : va_P D vwCl w' H) (hS : va_S A s.heap H locs) (hl : ls.size = nL)
    (d0 : decode cc pc = .ok (.new ik, 3)) (d3 : decode cc (pc + 3) = .ok (.dup, 1)) (d4 : decode cc (pc + 4) = .ok (.ldc is, 2)) (d6 : decode cc (pc + 6) = .ok (.invokespecial ic, 3)) (d9 : decode cc (pc + 9) = .ok (.athrow, 1))
    (hR : 5 < R.frames ∧ (rest.map fun v => v.category).sum + 82 ≤ R.locals ∧ 1 ≤ R.cells ∧ 6 ≤ R.slots) (hc : ¬ code = 0) (hE : cls = kE code) :
    W p l e R s m args below meth c H locs 0 0 (vx_MQ below Qc (kXx D w' A code) args s 1 6 A) (F0 m pc ls rest) := by
  obtain ⟨hx, hb, hml, hown, hts⟩ := S
  obtain ⟨a, ha⟩ := hK.2.2.1 _ hstr
  exact vx_throwS (names := kNm) (A := A) hx hb hst hown hfit (by decide +kernel) (hts _ hk) (hts _ hini) ha (k_at hgd hat hts hK.2.2.2.2) (List.all_eq_true.mp hgo) hG.2.1 hG.2.2 hS (hl.trans hml.symm) d0 d3 d4 d6 d9 (fun x h => (htab x h).elim) hR.1 hR.2.1 (by omega) (by omega) hlocks (kthrX hP hS hc hE) hS.2.2 (Nat.le_refl _) (Nat.le_refl _)
theorem kthrW {Qc : Array Value → State → Outcome → State → Prop} (S : CallFix p m c cc nL s args Ts RX7) (hst : l.stackTraces = false) (hG : GS A s s.heap) (hK : KK D cI s) (htab : ∀ x ∈ c.exceptionTable.toList, False) (hlocks : meth.locks = false)
    {cls text : String} {ik is ic : Nat} {code : Int32} (hfit : Bundle.fit cls = true) (hk : Cond.classLink RX7 ik cls ∈ Ts) (hini : Cond.initialized cls ∈ Ts) (hstr : (is, text) ∈ kStrs) (hat : ∀ w ∈ (vx_atS RX7 ic cls kNm).filter goodWord, w ∈ Ts) (hgd : ((vx_atS RX7 ic cls kNm).filter (fun w => !goodWord w)).all (fun w => decide (w ∈ kBad)) = true) (hgo : (Cond.classLink RX7 ik cls :: Cond.initialized cls :: vx_atS RX7 ic cls kNm).all vx_ot = true)
    (hP : va_P D vwCl w' H) (hS : va_S A s.heap H locs) (hl : ls.size = nL)
    (d0 : decode cc pc = .ok (.new ik, 3)) (d3 : decode cc (pc + 3) = .ok (.dup, 1)) (d4 : decode cc (pc + 4) = .ok (.ldc_w is, 3)) (d7 : decode cc (pc + 7) = .ok (.invokespecial ic, 3)) (d10 : decode cc (pc + 10) = .ok (.athrow, 1))
    (hR : 5 < R.frames ∧ (rest.map fun v => v.category).sum + 82 ≤ R.locals ∧ 1 ≤ R.cells ∧ 6 ≤ R.slots) (hc : ¬ code = 0) (hE : cls = kE code) :
    W p l e R s m args below meth c H locs 0 0 (vx_MQ below Qc (kXx D w' A code) args s 1 6 A) (F0 m pc ls rest) := by
  obtain ⟨hx, hb, hml, hown, hts⟩ := S
  obtain ⟨a, ha⟩ := hK.2.2.1 _ hstr
  exact vx_throwSW (names := kNm) (A := A) hx hb hst hown hfit (by decide +kernel) (hts _ hk) (hts _ hini) ha (k_at hgd hat hts hK.2.2.2.2) (List.all_eq_true.mp hgo) hG.2.1 hG.2.2 hS (hl.trans hml.symm) d0 d3 d4 d7 d10 (fun x h => (htab x h).elim) hR.1 hR.2.1 (by omega) (by omega) hlocks (kthrX hP hS hc hE) hS.2.2 (Nat.le_refl _) (Nat.le_refl _)
theorem k_aldq {cl : List vw_C} {a : Nat} {tys : List (ClassId × FieldType)} (hexec : p.tables.exec = Jvm.exec) (hb : c.code = cc) (hK : va_K D cl tys s) (hP : va_P D cl ws H) (q0 t0 : Nat) {cA : ClassId} {C : String} {n : Nat} {had : Nat → Nat → Nat} (ha : ws[q0]? = some (a, .inl (cA, n, .inr (.inr (.inr (.inr (rowF n had))))))) (ht : tys[t0]? = some (cA, .object C)) {i : Int32} (hin : ¬ (i < 0 ∨ n ≤ i.toNatClampNeg)) (hdg : decode cc pc = .ok (.aaload, 1))
    (kk : W p l e R s m args below meth c H locs cells slots Q (F0 m (pc + 1) ls (.ref (had i.toNatClampNeg 0) :: rest))) : W p l e R s m args below meth c H locs cells slots Q (F0 m pc ls (.int i :: .ref a :: rest)) := by
  refine va_aldq hexec hb hK hP q0 t0 ha ht hin hdg ?_
  have e : rowF n had i.toNatClampNeg = some (had i.toNatClampNeg 0) := if_pos (Nat.lt_of_not_le fun h => hin (Or.inr h))
  rw [e]
  exact kk
/-- calls by a world's part -/
theorem kpreS (hK : KK D cI s) (hG : GS A s s.heap) (hA : ∀ q, s.heap.size ≤ q → A q) (hP : va_P D vwCl ws H) (hD : va_D A ws) (hS : va_S A s.heap H locs) (hsub : kSub ws wc wc' ws') : PreS s H (kPc D cI wc H.size av) av := by
  have hF := kfreeS hsub hD hS hA
  refine ⟨kPc_blind, fun U hU hW => ⟨rfl, by rw [hU], ?_, hK.warm hW, ?_, vaD_iff.mpr ⟨hsub.2.1 (vaD_iff.mp hD).1, fun _ _ => trivial⟩⟩⟩
  · rw [hU]
    exact vaP_iff.mpr fun q hq => vaP_iff.mp hP q (hsub.1 q hq)
  · rw [hU]
    exact ((hG.kept (fun a h1 h2 => hS.2.1 a h1 h2)).narrow hF).moved hW.alike
theorem kpreSV (hK : KK D cI s) (hG : GS A s s.heap) (hA : ∀ q, s.heap.size ≤ q → A q) (hP : va_P D vwCl ws H) (hD : va_D A ws) (hS : va_S A s.heap H locs) (hsub : kSub ws wc wc' ws')
    {ci q0 N : Nat} {T : u_T} {fs : List Value} (hcl : vwCl[ci]? = some (C, T, N)) (hq0 : wc[q0]? = some (b, .inr (ci, fs))) : PreV s H C b (kPc D cI wc H.size (.ref b :: av)) av := by
  obtain ⟨h1, h2⟩ := kpreS (av := .ref b :: av) hK hG hA hP hD hS hsub
  have hPc : va_P D vwCl wc H := vaP_iff.mpr fun q hq => vaP_iff.mp hP q (hsub.1 q hq)
  exact ⟨h1, va_recv hK.1 hPc (ci := ci) (q0 := q0) hcl hq0, h2⟩
theorem kd_Vi (F : CallFix p m c cc nL s args Ts own) (hK : KK D cI s) (hG : GS A s s.heap) (hA : ∀ q, s.heap.size ≤ q → A q)
    (hM : Met l y wsy rm (kPc D cI wc H.size (.ref b :: av)) (kQi D wc wc' H.size r) 0 0 (va_A wc H.size)) (cw : CallW R s args own C index y bytes mL ret wsy rm 0 0 n)
    (hP : va_P D vwCl ws H) (hD : va_D A ws) (hS : va_S A s.heap H locs) (hsub : kSub ws wc wc' ws')
    (q0 : Nat) {ci N : Nat} {T : u_T} {fs : List Value} (hcl : vwCl[ci]? = some (C, T, N)) (hq0 : wc[q0]? = some (b, .inr (ci, fs)))
    (hav : av.length = n) (hl : ls.size = nL) (hstk : stk = av.reverse ++ .ref b :: rest) (hroom : (rest.map fun v => v.category).sum ≤ 8) (hf : cells ≤ R.cells ∧ slots ≤ R.slots) (hdg : decode cc pc = .ok (.invokevirtual index, 3))
    (kk : ∀ (H1 : Heap) (locs1 : List Loc), va_P D vwCl ws' H1 → va_D A ws' → va_S A s.heap H1 locs1 → W p l e R s m args below meth c H1 locs1 cells slots Q (F0 m (pc + 3) ls (.int r :: rest))) :
    W p l e R s m args below meth c H locs cells slots Q (F0 m pc ls stk) := by
  have hF := kfreeS hsub hD hS hA
  refine va_calli (va_runV F hM cw (kpreSV hK hG hA hP hD hS hsub hcl hq0) rfl hav hl hstk (lv_room hroom) hdg hf) hS (fun q _ h => hF q h) hF (fun r1 u t H1 locs1 ht hvm hw1 hB hz hk hS1 => ?_)
  subst hw1
  rw [ht] at hB
  obtain ⟨h1, h2⟩ := kjoinS hsub hP hD hk hB
  exact kk H1 locs1 h1 h2 hS1
theorem kd_Vv (F : CallFix p m c cc nL s args Ts own) (hK : KK D cI s) (hG : GS A s s.heap) (hA : ∀ q, s.heap.size ≤ q → A q)
    (hM : Met l y wsy rm (kPc D cI wc H.size (.ref b :: av)) (kQv D wc wc' H.size) 0 0 (va_A wc H.size)) (cw : CallW R s args own C index y bytes mL ret wsy rm 0 0 n)
    (hP : va_P D vwCl ws H) (hD : va_D A ws) (hS : va_S A s.heap H locs) (hsub : kSub ws wc wc' ws')
    (q0 : Nat) {ci N : Nat} {T : u_T} {fs : List Value} (hcl : vwCl[ci]? = some (C, T, N)) (hq0 : wc[q0]? = some (b, .inr (ci, fs)))
    (hav : av.length = n) (hl : ls.size = nL) (hstk : stk = av.reverse ++ .ref b :: rest) (hroom : (rest.map fun v => v.category).sum ≤ 8) (hf : cells ≤ R.cells ∧ slots ≤ R.slots) (hdg : decode cc pc = .ok (.invokevirtual index, 3))
    (kk : ∀ (H1 : Heap) (locs1 : List Loc), va_P D vwCl ws' H1 → va_D A ws' → va_S A s.heap H1 locs1 → W p l e R s m args below meth c H1 locs1 cells slots Q (F0 m (pc + 3) ls rest)) :
    W p l e R s m args below meth c H locs cells slots Q (F0 m pc ls stk) := by
  have hF := kfreeS hsub hD hS hA
  refine va_callv (va_runV F hM cw (kpreSV hK hG hA hP hD hS hsub hcl hq0) rfl hav hl hstk (lv_room hroom) hdg hf) hS (fun q _ h => hF q h) hF (fun u t H1 locs1 ht hvm hw1 hB hz hk hS1 => ?_)
  rw [ht] at hB
  obtain ⟨h1, h2⟩ := kjoinS hsub hP hD hk hB
  exact kk H1 locs1 h1 h2 hS1
/-- a call of a method that may throw -/
theorem kx_Vi {code : Int32} (F : CallFix p m c cc nL s args Ts own) (hK : KK D cI s) (hG : GS A s s.heap) (hA : ∀ q, s.heap.size ≤ q → A q)
    (hM : vx_Met l y wsy rm (kPc D cI wc H.size (.ref b :: av)) (kQx D wc' (va_A wc H.size) code r) (kXx D wc' (va_A wc H.size) code) 1 6 (va_A wc H.size)) (cw : CallW R s args own C index y bytes mL ret wsy rm 1 6 n)
    (hP : va_P D vwCl ws H) (hD : va_D A ws) (hS : va_S A s.heap H locs) (hsub : kSub ws wc wc' ws')
    (q0 : Nat) {ci N : Nat} {T : u_T} {fs : List Value} (hcl : vwCl[ci]? = some (C, T, N)) (hq0 : wc[q0]? = some (b, .inr (ci, fs)))
    (hav : av.length = n) (hl : ls.size = nL) (hstk : stk = av.reverse ++ .ref b :: rest) (hroom : (rest.map fun v => v.category).sum ≤ 8) (hf : 0 + 1 ≤ R.cells ∧ 0 + 6 ≤ R.slots) (hdg : decode cc pc = .ok (.invokevirtual index, 3))
    (kx : ∀ (H1 : Heap) (locs1 : List Loc) (q9 : Nat) (ce : Cell), ¬ code = 0 → va_P D vwCl ws' H1 → va_D A ws' → va_S A s.heap H1 locs1 → H1[q9]? = some ce → ce.vm = .none → s.vm.findClass (kE code) = some ce.cls → vx_W p l e R s m args below meth c H1 locs1 1 6 Q (F0 m pc ls rest) q9)
    (kk : ∀ (H1 : Heap) (locs1 : List Loc), code = 0 → va_P D vwCl ws' H1 → va_D A ws' → va_S A s.heap H1 locs1 → W p l e R s m args below meth c H1 locs1 1 6 Q (F0 m (pc + 3) ls (.int r :: rest))) :
    W p l e R s m args below meth c H locs 0 0 Q (F0 m pc ls stk) := by
  have hF := kfreeS hsub hD hS hA
  refine vx_calli (vx_runV F hM cw (kpreSV hK hG hA hP hD hS hsub hcl hq0) rfl hav hl hstk (lv_room hroom) hdg hf) hS (fun q _ h => hF q h) hF (fun q _ h => hF q h) (fun E ce q9 u t H1 locs1 ht hvm hp hB hz hk hS1 hce hv hcl => ?_) (fun r1 u t H1 locs1 ht hvm hw1 hB hz hk hS1 => ?_)
  · obtain ⟨hE, hB⟩ := hB
    rw [ht] at hB
    obtain ⟨h1, h2⟩ := kjoinS hsub hP hD hk hB
    exact kx H1 locs1 q9 ce hp h1 h2 hS1 hce hv (by rw [← hE]; exact hcl)
  · obtain ⟨hc0, hw1⟩ := hw1
    subst hw1
    rw [ht] at hB
    obtain ⟨h1, h2⟩ := kjoinS hsub hP hD hk hB
    exact kk H1 locs1 hc0 h1 h2 hS1
/-- a static call of a method with a table -/
theorem kw_Si {hh : List (Nat × Nat × Nat × Nat)} (F : CallFix p m c cc nL s args Ts own) (hK : KK D cI s) (hG : GS A s s.heap) (hA : ∀ q, s.heap.size ≤ q → A q)
    (hM : Met l y wsy rm (kPc D cI wc H.size av) (kQi D wc wc' H.size r) 1 6 (va_A wc H.size)) (cw : vx_CSW R s args own index y bytes mL ret hh wsy rm 1 6 n)
    (hP : va_P D vwCl ws H) (hD : va_D A ws) (hS : va_S A s.heap H locs) (hsub : kSub ws wc wc' ws')
    (hav : av.length = n) (hl : ls.size = nL) (hstk : stk = av.reverse ++ rest) (hroom : (rest.map fun v => v.category).sum ≤ 8) (hf : cells + 1 ≤ R.cells ∧ slots + 6 ≤ R.slots) (hdg : decode cc pc = .ok (.invokestatic index, 3))
    (kk : ∀ (H1 : Heap) (locs1 : List Loc), va_P D vwCl ws' H1 → va_D A ws' → va_S A s.heap H1 locs1 → W p l e R s m args below meth c H1 locs1 (cells + 1) (slots + 6) Q (F0 m (pc + 3) ls (.int r :: rest))) :
    W p l e R s m args below meth c H locs cells slots Q (F0 m pc ls stk) := by
  have hF := kfreeS hsub hD hS hA
  refine va_calli (vx_runSW F hM cw (kpreS hK hG hA hP hD hS hsub) rfl hav hl hstk (lv_room hroom) hdg hf) hS (fun q _ h => hF q h) hF (fun r1 u t H1 locs1 ht hvm hw1 hB hz hk hS1 => ?_)
  subst hw1
  rw [ht] at hB
  obtain ⟨h1, h2⟩ := kjoinS hsub hP hD hk hB
  exact kk H1 locs1 h1 h2 hS1
end KT
section KMX
variable {l : Launch} {y : MethodName} {ws ws' : List Cond} {rm : Room} {cc : ByteArray} {maxL : Nat} {D : va_G} {cI : Nat → ClassId} {w w' : va_W} {av : List Value} {sz : Nat}
theorem kM_x {code r : Int32} (hy : plainName y.cls = true) (hw : ws = Cond.code y cc maxL (some .int) :: ws') (hal : (lg_sl av).length ≤ maxL)
    (body : ∀ (p : Program) (e : Env) (s : State) (m : MethodId) (args : Array Value) (below : List Frame) (meth : Method) (c : Code) (A : Nat → Prop) (Q : State → Prop), CallFix p m c cc maxL s args ws y.cls → KK D cI s → GS A s s.heap → va_D A w → (∀ q, s.heap.size ≤ q → A q) → (∀ x ∈ c.exceptionTable.toList, False) → meth.locks = false →
      Q = vx_MQ below (kQx D w' A code r) (kXx D w' A code) args s 1 6 A →
      (∀ (H : Heap) (locs : List Loc) (ls : Array Slot) (pc : Nat), code = 0 → va_P D vwCl w' H → va_S A s.heap H locs → decode cc pc = .ok (.ireturn, 1) → W p l e rm s m args below meth c H locs 0 0 Q (F0 m pc ls [.int r])) →
      ∀ ls : Array Slot, va_P D vwCl w s.heap → va_S A s.heap s.heap [] → lv_has ls maxL (lv_args 0 av) → W p l e rm s m args below meth c s.heap [] 0 0 Q (F0 m 0 ls [])) :
    vx_Met l y ws rm (kPc D cI w sz av) (kQx D w' (va_A w sz) code r) (kXx D w' (va_A w sz) code) 1 6 (va_A w sz) := by
  refine vx_ofW (cc := cc) (maxL := maxL) (ret := some .int) hy hw ?_
  intro p e s m args below meth c s₁ B hml htab hv
  obtain ⟨rfl, hsz, hP, hK, hG, hD0⟩ := hv
  subst hsz
  have hlocks := B.notSynchronized
  have hl := lv_entry av (n := maxL) hal
  rw [lg_entry_eq]
  exact body p e s m av.toArray below meth c _ _ ⟨B.exec, B.bytes, hml, findClass_of_methodNamed B.named, atoms_spec (ws := ws) B.pre⟩ hK hG (hD0.self (sz := s.heap.size)) (fun q h => Or.inr h) htab hlocks rfl
    (fun H locs ls pc hc hP2 hS d => W.widen (k := 1) (n := 6) (by omega) (by omega) (vx_ret (W.iret (v := r) B.exec B.bytes B.returns (fun t ht hW => ⟨⟨r, (), rfl, ⟨hc, rfl⟩, by show va_P D vwCl w' t.heap; rw [ht]; exact hP2⟩, hS.F ht⟩) hS.2.2 d))) _ hP va_S.rf hl
theorem kM_w {r : Int32} {hh : List (Nat × Nat × Nat × Nat)} (hy : plainName y.cls = true) (hw : ws = Cond.codeWith y cc maxL (some .int) hh :: ws') (hal : (lg_sl av).length ≤ maxL)
    (body : ∀ (p : Program) (e : Env) (s : State) (m : MethodId) (args : Array Value) (below : List Frame) (meth : Method) (c : Code) (A : Nat → Prop) (Q : State → Prop), CallFix p m c cc maxL s args ws y.cls → KK D cI s → GS A s s.heap → va_D A w → (∀ q, s.heap.size ≤ q → A q) → c.exceptionTable.toList = tableOf hh →
      (∀ (H : Heap) (locs : List Loc) (ls : Array Slot) (pc : Nat), va_P D vwCl w' H → va_S A s.heap H locs → decode cc pc = .ok (.ireturn, 1) → W p l e rm s m args below meth c H locs 1 6 Q (F0 m pc ls [.int r])) →
      ∀ ls : Array Slot, va_P D vwCl w s.heap → va_S A s.heap s.heap [] → lv_has ls maxL (lv_args 0 av) → W p l e rm s m args below meth c s.heap [] 0 0 Q (F0 m 0 ls [])) :
    Met l y ws rm (kPc D cI w sz av) (kQi D w w' sz r) 1 6 (va_A w sz) := by
  refine va_MetW (cc := cc) (maxL := maxL) (ret := some .int) hy hw ?_
  intro p e s m args below meth c s₁ B hml hv
  obtain ⟨rfl, hsz, hP, hK, hG, hD0⟩ := hv
  subst hsz
  have hlocks := B.notSynchronized
  have hl := lv_entry av (n := maxL) hal
  have hts := atoms_spec (ws := ws) B.pre
  rw [lg_entry_eq]
  exact body p e s m av.toArray below meth c _ _ ⟨B.exec, B.bytes, hml, findClass_of_methodNamed B.named, hts⟩ hK hG (hD0.self (sz := s.heap.size)) (fun q h => Or.inr h) (vx_table (x := y) B (hts _ (by rw [hw]; exact List.mem_cons_self)))
    (fun H locs ls pc hP2 hS d => W.iret (v := r) B.exec B.bytes B.returns (fun t ht hW => ⟨⟨r, (), rfl, rfl, by show va_P D vwCl w' t.heap; rw [ht]; exact hP2⟩, hS.F ht⟩) hS.2.2 d) _ hP va_S.rf hl
end KMX
