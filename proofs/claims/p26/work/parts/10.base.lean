/-! my words: contents of arrays, the known classes, nest words, statics; calls and ends of methods in one row each -/
abbrev kF : Type := Nat → Int32
theorem kite_t {α : Type} {c : Prop} [Decidable c] {a b : Option α} {o : α} (h : c) (hq : (if c then a else b) = some o) : a = some o := by rw [if_pos h] at hq; exact hq
theorem kite_f {α : Type} {c : Prop} [Decidable c] {a b : Option α} {o : α} (h : ¬ c) (hq : (if c then a else b) = some o) : b = some o := by rw [if_neg h] at hq; exact hq
theorem kite_n {α : Type} {c : Prop} [Decidable c] {b : Option α} {o : α} (hq : (if c then none else b) = some o) : ¬ c ∧ b = some o := by
  by_cases h : c
  · rw [if_pos h] at hq; cases hq
  · rw [if_neg h] at hq; exact ⟨h, hq⟩
theorem kite_b {α : Type} {c : Prop} [Decidable c] {a o : α} (hq : (if c then some a else none) = some o) : c ∧ some a = some o := by
  by_cases h : c
  · rw [if_pos h] at hq; exact ⟨h, hq⟩
  · rw [if_neg h] at hq; cases hq
theorem kbind {α β : Type} {x : Option α} {f : α → Option β} {o : β} (hq : x.bind f = some o) : ∃ a, x = some a ∧ f a = some o := by
  cases x with
  | none => cases hq
  | some a => exact ⟨a, rfl, hq⟩
section KAR
variable {p : Program} {l : Launch} {e : Env} {R : Room} {s : State} {m : MethodId} {args : Array Value} {below : List Frame} {meth : Method} {c : Code} {H : Heap} {locs : List Loc} {cells slots : Nat} {Q : State → Prop}
variable {cc : ByteArray} {pc : Nat} {ls : Array Slot} {rest : List Value} {D : va_G} {cl : List vw_C} {A : Nat → Prop} {a : Nat} {tys : List (ClassId × FieldType)} {ws : va_W} {H0 : Heap}
theorem k_iald (hexec : p.tables.exec = Jvm.exec) (hb : c.code = cc) (hK : va_K D cl tys s) (hP : va_P D cl ws H) (q0 t0 : Nat) {cA : ClassId} {n j : Nat} {f : Nat → Int32} (ha : ws[q0]? = some (a, .inl (cA, n, .inl f))) (ht : tys[t0]? = some (cA, .int)) {i : Int32} (hin : ¬ (i < 0 ∨ n ≤ i.toNatClampNeg)) (hj : i.toNatClampNeg = j) (hdg : decode cc pc = .ok (.iaload, 1))
    (kk : W p l e R s m args below meth c H locs cells slots Q (F0 m (pc + 1) ls (.int (f j) :: rest))) : W p l e R s m args below meth c H locs cells slots Q (F0 m pc ls (.int i :: .ref a :: rest)) := by
  subst hj
  exact va_iald hexec hb hK hP q0 t0 ha ht hin hdg kk
theorem k_zald (hexec : p.tables.exec = Jvm.exec) (hb : c.code = cc) (hK : va_K D cl tys s) (hP : va_P D cl ws H) (q0 t0 : Nat) {cA : ClassId} {n j : Nat} {f : Nat → Int32} (ha : ws[q0]? = some (a, .inl (cA, n, .inl f))) (ht : tys[t0]? = some (cA, .boolean)) {i : Int32} (hin : ¬ (i < 0 ∨ n ≤ i.toNatClampNeg)) (hj : i.toNatClampNeg = j) (hdg : decode cc pc = .ok (.baload, 1))
    (kk : W p l e R s m args below meth c H locs cells slots Q (F0 m (pc + 1) ls (.int (f j) :: rest))) : W p l e R s m args below meth c H locs cells slots Q (F0 m pc ls (.int i :: .ref a :: rest)) := by
  subst hj
  exact va_zald hexec hb hK hP q0 t0 ha ht hin hdg kk
theorem k_lald (hexec : p.tables.exec = Jvm.exec) (hb : c.code = cc) (hK : va_K D cl tys s) (hP : va_P D cl ws H) (q0 t0 : Nat) {cA : ClassId} {n j : Nat} {f : Nat → Int64} (ha : ws[q0]? = some (a, .inl (cA, n, .inr (.inl f)))) (ht : tys[t0]? = some (cA, .long)) {i : Int32} (hin : ¬ (i < 0 ∨ n ≤ i.toNatClampNeg)) (hj : i.toNatClampNeg = j) (hdg : decode cc pc = .ok (.laload, 1))
    (kk : W p l e R s m args below meth c H locs cells slots Q (F0 m (pc + 1) ls (.long (f j) :: rest))) : W p l e R s m args below meth c H locs cells slots Q (F0 m pc ls (.int i :: .ref a :: rest)) := by
  subst hj
  exact va_lald hexec hb hK hP q0 t0 ha ht hin hdg kk
theorem k_iast (hexec : p.tables.exec = Jvm.exec) (hb : c.code = cc) (hK : va_K D cl tys s) (hP : va_P D cl ws H) (hD : va_D A ws) (hS : va_S A H0 H locs) (q0 t0 : Nat) {cA : ClassId} {n j : Nat} {f : Nat → Int32} (ha : ws[q0]? = some (a, .inl (cA, n, .inl f))) (ht : tys[t0]? = some (cA, .int)) {i x : Int32} (hin : ¬ (i < 0 ∨ n ≤ i.toNatClampNeg)) (hj : i.toNatClampNeg = j) (hdg : decode cc pc = .ok (.iastore, 1))
    (kk : ∀ (H1 : Heap) (locs1 : List Loc), va_P D cl (ws.set q0 (a, .inl (cA, n, .inl (upd f j x)))) H1 → va_D A (ws.set q0 (a, .inl (cA, n, .inl (upd f j x)))) → va_S A H0 H1 locs1 → W p l e R s m args below meth c H1 locs1 cells slots Q (F0 m (pc + 1) ls rest)) : W p l e R s m args below meth c H locs cells slots Q (F0 m pc ls (.int x :: .int i :: .ref a :: rest)) := by
  subst hj
  exact va_iast hexec hb hK hP hD hS q0 t0 ha ht hin hdg kk
theorem k_zast (hexec : p.tables.exec = Jvm.exec) (hb : c.code = cc) (hK : va_K D cl tys s) (hP : va_P D cl ws H) (hD : va_D A ws) (hS : va_S A H0 H locs) (q0 t0 : Nat) {cA : ClassId} {n j : Nat} {f : Nat → Int32} (ha : ws[q0]? = some (a, .inl (cA, n, .inl f))) (ht : tys[t0]? = some (cA, .boolean)) {i x : Int32} (hin : ¬ (i < 0 ∨ n ≤ i.toNatClampNeg)) (hj : i.toNatClampNeg = j) (hdg : decode cc pc = .ok (.bastore, 1))
    (kk : ∀ (H1 : Heap) (locs1 : List Loc), va_P D cl (ws.set q0 (a, .inl (cA, n, .inl (upd f j (vp_nar .boolean x))))) H1 → va_D A (ws.set q0 (a, .inl (cA, n, .inl (upd f j (vp_nar .boolean x))))) → va_S A H0 H1 locs1 → W p l e R s m args below meth c H1 locs1 cells slots Q (F0 m (pc + 1) ls rest)) : W p l e R s m args below meth c H locs cells slots Q (F0 m pc ls (.int x :: .int i :: .ref a :: rest)) := by
  subst hj
  exact va_zast hexec hb hK hP hD hS q0 t0 ha ht hin hdg kk
theorem k_last (hexec : p.tables.exec = Jvm.exec) (hb : c.code = cc) (hK : va_K D cl tys s) (hP : va_P D cl ws H) (hD : va_D A ws) (hS : va_S A H0 H locs) (q0 t0 : Nat) {cA : ClassId} {n j : Nat} {f : Nat → Int64} (ha : ws[q0]? = some (a, .inl (cA, n, .inr (.inl f)))) (ht : tys[t0]? = some (cA, .long)) {i : Int32} {x : Int64} (hin : ¬ (i < 0 ∨ n ≤ i.toNatClampNeg)) (hj : i.toNatClampNeg = j) (hdg : decode cc pc = .ok (.lastore, 1))
    (kk : ∀ (H1 : Heap) (locs1 : List Loc), va_P D cl (ws.set q0 (a, .inl (cA, n, .inr (.inl (vp_updL f j x))))) H1 → va_D A (ws.set q0 (a, .inl (cA, n, .inr (.inl (vp_updL f j x))))) → va_S A H0 H1 locs1 → W p l e R s m args below meth c H1 locs1 cells slots Q (F0 m (pc + 1) ls rest)) : W p l e R s m args below meth c H locs cells slots Q (F0 m pc ls (.long x :: .int i :: .ref a :: rest)) := by
  subst hj
  exact va_last hexec hb hK hP hD hS q0 t0 ha ht hin hdg kk
end KAR
/-- the words of members of nest mates -/
def nwL : List Cond := [.fieldLinkNest "PinDeck" 80 "PinDeck$State" "sheet" "LPinDeck$Sheet;" "PinDeck", .fieldLinkNest "PinDeck" 98 "PinDeck$State" "stopped" "I" "PinDeck", .fieldLinkNest "PinDeck" 102 "PinDeck$State" "dropped" "I" "PinDeck", .fieldLinkNest "PinDeck" 105 "PinDeck$State" "fouls" "I" "PinDeck", .fieldLinkNest "PinDeck" 108 "PinDeck$State" "pins" "LPinDeck$Pins;" "PinDeck", .methodLinkNest "PinDeck$Pins" 22 ⟨"PinDeck", "isPin", "(I)Z"⟩ "PinDeck", .fieldLinkNest "PinDeck$Pins" 26 "PinDeck" "HOME_BOARD" "[I" "PinDeck", .fieldLinkNest "PinDeck$Script" 35 "PinDeck$State" "pins" "LPinDeck$Pins;" "PinDeck", .fieldLinkNest "PinDeck$Script" 54 "PinDeck$State" "sheet" "LPinDeck$Sheet;" "PinDeck", .methodLinkNest "PinDeck$Slots" 22 ⟨"PinDeck", "isSlot", "(I)Z"⟩ "PinDeck", .methodLinkNest "PinDeck$State" 55 ⟨"PinDeck", "isSetting", "(I)Z"⟩ "PinDeck", .methodLinkNest "PinDeck$State" 96 ⟨"PinDeck", "isBall", "(II)Z"⟩ "PinDeck", .methodLinkNest "PinDeck$State" 100 ⟨"PinDeck", "isSpeed", "(I)Z"⟩ "PinDeck", .methodLinkNest "PinDeck$State" 107 ⟨"PinDeck", "isLeaning", "(I)Z"⟩ "PinDeck", .methodLinkNest "PinDeck$State" 117 ⟨"PinDeck", "isValue", "(II)Z"⟩ "PinDeck"]
def NW (U : State) : Prop := ∀ w ∈ nwL, va_Nw w U
def nw_ok : Cond → Bool
  | .fieldLinkNest .. => true
  | .methodLinkNest .. => true
  | _ => false
theorem nwL_ok : nwL.all nw_ok = true := by decide +kernel
theorem nw_warm {w : Cond} (hk : nw_ok w = true) {s U : State} (hW : s.WarmedH U.vm) (h : va_Nw w s) : va_Nw w U := by
  cases w <;> first | exact va_Nw.warmF hW h | exact va_Nw.warmM hW h | cases hk
theorem nw_same {w : Cond} (hk : nw_ok w = true) {u U : State} (e : u.vm = U.vm) (h : va_Nw w u) : va_Nw w U := by
  cases w <;> first | exact va_Nw.same rfl e h | cases hk
theorem NW.warm {s U : State} (hW : s.WarmedH U.vm) (h : NW s) : NW U := fun w hw => nw_warm (List.all_eq_true.mp nwL_ok w hw) hW (h w hw)
theorem NW.same {u U : State} (e : u.vm = U.vm) (h : NW u) : NW U := fun w hw => nw_same (List.all_eq_true.mp nwL_ok w hw) e (h w hw)
theorem NW.at {s : State} (h : NW s) {args : Array Value} {w : Cond} (hw : w ∈ nwL) : w.before args s = true := by
  have h2 := List.all_eq_true.mp nwL_ok w hw
  have h1 := h w hw
  cases w <;> first | exact va_Nw.use rfl h1 | cases h2
/-- the classes and array classes, and the nest words -/
def kTys (cI : Nat → ClassId) : List (ClassId × FieldType) := [(cI 0, .int), (cI 1, .boolean), (cI 2, .object RX6), (cI 3, .int)]
/-- the texts of what is thrown, and which classes are not one another's -/
def kStrs : List (Nat × String) := [(42, "a character is 0 to 255"), (53, "the text is full"), (67, "the text is not a game"), (128, "what is 0 to 9"), (136, "there is no such pin"), (148, "what is 0 to 3"), (153, "there is no such frame"), (161, "what is 0 to 2"), (163, "there is no such roll"), (171, "a setting is 0 to 2"), (190, "there is no such ball"), (192, "the game is over"), (201, "a leaning is 0 to 3"), (206, "the pin has fallen"), (215, "there is no such setting or value"), (223, "no state is remembered"), (237, "a drift is -2 to 2"), (258, "a script has 1 to 3 commands"), (266, "the script has more digits than its commands"), (274, "m is 1 to 60"), (297, "there is no such save slot"), (306, "nothing has been saved in this slot")]
def kIA : String := "java/lang/IllegalArgumentException"
def kIS : String := "java/lang/IllegalStateException"
def kIB : String := "java/lang/IndexOutOfBoundsException"
def kNcs : List (String × String) := [(kIA, kIS), (kIA, kIB), (kIS, kIA), (kIS, kIB), (kIB, kIA), (kIB, kIS)]
def kBad : List Cond := [.declares (Bundle.initS "java/lang/RuntimeException"), .declares (Bundle.initS "java/lang/Exception"), .declares (Bundle.initS "java/lang/Throwable"), .castable kIA kIA, .castable kIS kIS, .castable kIB kIB]
theorem kBad_warm {w : Cond} (hw : w ∈ kBad) {s U : State} (hW : s.WarmedH U.vm) (h : va_Nw w s) : va_Nw w U := by
  simp only [kBad, List.mem_cons, List.not_mem_nil, or_false] at hw
  rcases hw with rfl | rfl | rfl | rfl | rfl | rfl
  · exact va_tabs rfl (rfl : (s.setVm U.vm).vm = U.vm) (by rw [Cond.declares_setVm hW.alike]; exact h)
  · exact va_tabs rfl (rfl : (s.setVm U.vm).vm = U.vm) (by rw [Cond.declares_setVm hW.alike]; exact h)
  · exact va_tabs rfl (rfl : (s.setVm U.vm).vm = U.vm) (by rw [Cond.declares_setVm hW.alike]; exact h)
  · exact va_Nw.warmC hW h
  · exact va_Nw.warmC hW h
  · exact va_Nw.warmC hW h
theorem kBad_tab {w : Cond} (hw : w ∈ kBad) : w.onTables = true := by
  simp only [kBad, List.mem_cons, List.not_mem_nil, or_false] at hw
  rcases hw with rfl | rfl | rfl | rfl | rfl | rfl <;> rfl
def SR (U : State) : Prop := (∀ w ∈ kStrs, ∃ a : Nat, vk_R RX7 w.1 w.2 a U) ∧ (∀ w ∈ kNcs, va_Nc w.1 w.2 U) ∧ ∀ w ∈ kBad, va_Nw w U
theorem SR.warm {s U : State} (hW : s.WarmedH U.vm) (h : SR s) : SR U := ⟨fun w hw => by obtain ⟨a, ha⟩ := h.1 w hw; exact ⟨a, vk_R.warm hW ha⟩, fun w hw => va_Nc.moved hW.alike (h.2.1 w hw), fun w hw => kBad_warm hw hW (h.2.2 w hw)⟩
theorem SR.same {u U : State} (e : u.vm = U.vm) (h : SR u) : SR U := ⟨fun w hw => by obtain ⟨a, ha⟩ := h.1 w hw; exact ⟨a, vk_R.same e.symm ha⟩, fun w hw => va_Nc.moved (by rw [e]; exact Vm.Alike.refl U.vm) (h.2.1 w hw), fun w hw => va_Nw.same (kBad_tab hw) e (h.2.2 w hw)⟩
def KK (D : va_G) (cI : Nat → ClassId) (U : State) : Prop := va_K D vwCl (kTys cI) U ∧ NW U ∧ SR U
theorem KK.warm {D : va_G} {cI : Nat → ClassId} {s U : State} (hW : s.WarmedH U.vm) (h : KK D cI s) : KK D cI U := ⟨va_K.moved hW.alike h.1, h.2.1.warm hW, h.2.2.warm hW⟩
theorem KK.same {D : va_G} {cI : Nat → ClassId} {u U : State} (e : u.vm = U.vm) (h : KK D cI u) : KK D cI U := ⟨va_K.moved (by rw [e]; exact Vm.Alike.refl U.vm) h.1, h.2.1.same e, h.2.2.same e⟩
/-- the board of each pin without a shift -/
def kHB : Nat → Int32 := fun k => ([20, 17, 23, 14, 20, 26, 11, 17, 23, 29] : List Int32).getD k 0
def GS (A : Nat → Prop) (U : State) (H : Heap) : Prop :=
  (∃ t : Nat, va_Z "PinDeck" "HOME_BOARD" "[I" (.ref t) A U H ∧ va_T .int t 10 (fun k => .int (kHB k)) A U H) ∧
  vx_Zq Bundle.tN "UNASSIGNED_STACK" Bundle.steD A U H ∧ vx_Zq Bundle.tN "SUPPRESSED_SENTINEL" Bundle.listD A U H
theorem GS.moved {A : Nat → Prop} {u U : State} {H : Heap} (hvm : u.vm.Alike U.vm) (h : GS A u H) : GS A U H := by
  obtain ⟨⟨t, h1, h2⟩, h3, h4⟩ := h
  exact ⟨⟨t, va_Z.moved hvm h1, va_T.moved hvm h2⟩, vx_Zq.moved hvm h3, vx_Zq.moved hvm h4⟩
theorem GS.kept {A : Nat → Prop} {U : State} {H H1 : Heap} (h : GS A U H) (hq : ∀ a : Nat, a < H.size → ¬ A a → H1[a]? = H[a]?) : GS A U H1 := by
  obtain ⟨⟨t, h1, h2⟩, h3, h4⟩ := h
  exact ⟨⟨t, h1.kept hq, h2.kept hq⟩, h3.kept hq, h4.kept hq⟩
theorem GS.narrow {A B : Nat → Prop} {U : State} {H : Heap} (h : GS A U H) (hAB : ∀ q, B q → A q) : GS B U H := by
  obtain ⟨⟨t, h1, h2⟩, h3, h4⟩ := h
  exact ⟨⟨t, h1.narrow hAB, h2.narrow hAB⟩, h3.narrow hAB, h4.narrow hAB⟩
/-- a method's start and ends -/
def kPc (D : va_G) (cI : Nat → ClassId) (w : va_W) (sz : Nat) (av : List Value) : Array Value → State → Prop := va_Pc av (fun U => U.heap.size = sz ∧ va_P D vwCl w U.heap ∧ KK D cI U ∧ GS (va_A w sz) U U.heap ∧ va_D (fun _ => True) w)
def kQi (D : va_G) (w w' : va_W) (sz : Nat) (r : Int32) : Array Value → State → Outcome → State → Prop := va_Qi (fun (x : Int32) (_ : Unit) => x = r) (fun _ t => va_P D vwCl w' t.heap) (va_A w sz)
def kQl (D : va_G) (w w' : va_W) (sz : Nat) (r : Int64) : Array Value → State → Outcome → State → Prop := va_Ql (fun (x : Int64) (_ : Unit) => x = r) (fun _ t => va_P D vwCl w' t.heap) (va_A w sz)
def kQv (D : va_G) (w w' : va_W) (sz : Nat) : Array Value → State → Outcome → State → Prop := va_Qv (fun (_ : Unit) => True) (fun _ t => va_P D vwCl w' t.heap) (va_A w sz)
theorem kPc_blind {D : va_G} {cI : Nat → ClassId} {w : va_W} {sz : Nat} {av : List Value} : FrameBlind (kPc D cI w sz av) := fun a U g mk q => by
  obtain ⟨q0, q1, qP, qK, qG, qD⟩ := q
  exact ⟨q0, q1, qP, KK.same (u := U) (U := U.calling g mk a) rfl qK, GS.moved (u := U) (U := U.calling g mk a) (Vm.Alike.refl U.vm) qG, qD⟩
theorem k_ofW {l : Launch} {y : MethodName} {ws ws' : List Cond} {rm : Room} {Pc : Array Value → State → Prop} {Qc : Array Value → State → Outcome → State → Prop} {mc ms : Nat} {free : Addr → Prop} {cc : ByteArray} {maxL : Nat} {ret : Option FieldType}
    (hy : plainFor y = true) (hw : ws = Cond.code y cc maxL ret :: ws')
    (body : ∀ p e s m args below meth c s₁, BodyLoose p l y (headSpec ws rm) cc maxL ret e s m args below meth c s₁ → c.maxLocals = maxL → Pc args s →
      W p l e (headSpec ws rm).room s m args below meth c s.heap [] 0 0 (MQ below Qc args s mc ms free) (entryFrame m args maxL)) : Met l y ws rm Pc Qc mc ms free := by
  refine MetFree.of_bodySF (code := cc) (maxLocals := maxL) (ret := ret) hy ?_ ?_
  · intro args s m h hn
    obtain ⟨meth, c, h1, h2, h3, h4, h5, h6, -, -⟩ := Cond.code_spec hn (atoms_spec (ws := ws) h _ (by rw [hw]; exact List.mem_cons_self))
    exact ⟨meth, c, h1, h2, h3, h4, h5, h6⟩
  · intro p e s m args below meth c s₁ B hml hP _
    have hh0 : s₁.heap = s.heap := by rw [B.state]; rfl
    obtain ⟨t, a1, o, b1, b2, b3⟩ := body p e s m args below meth c s₁ B hml hP s₁ hh0 (Stand.of_body B)
    exact ⟨t, o, a1, b1, b2, ⟨b3.1, b3.2⟩⟩
section KM
variable {l : Launch} {y : MethodName} {ws ws' : List Cond} {rm : Room} {cc : ByteArray} {maxL : Nat} {D : va_G} {cI : Nat → ClassId} {w w' : va_W} {av : List Value} {sz : Nat}
theorem kM_i {r : Int32} (hy : plainFor y = true) (hw : ws = Cond.code y cc maxL (some .int) :: ws') (hal : (lg_sl av).length ≤ maxL)
    (body : ∀ (p : Program) (e : Env) (s : State) (m : MethodId) (args : Array Value) (below : List Frame) (meth : Method) (c : Code) (A : Nat → Prop) (Q : State → Prop), CallFix p m c cc maxL s args ws y.cls → KK D cI s → GS A s s.heap → va_D A w → (∀ q, s.heap.size ≤ q → A q) →
      (∀ (H : Heap) (locs : List Loc) (ls : Array Slot) (pc : Nat), va_P D vwCl w' H → va_S A s.heap H locs → decode cc pc = .ok (.ireturn, 1) → W p l e rm s m args below meth c H locs 0 0 Q (F0 m pc ls [.int r])) →
      ∀ ls : Array Slot, va_P D vwCl w s.heap → va_S A s.heap s.heap [] → lv_has ls maxL (lv_args 0 av) → W p l e rm s m args below meth c s.heap [] 0 0 Q (F0 m 0 ls [])) :
    Met l y ws rm (kPc D cI w sz av) (kQi D w w' sz r) 0 0 (va_A w sz) := by
  refine k_ofW (cc := cc) (maxL := maxL) (ret := some .int) hy hw ?_
  intro p e s m args below meth c s₁ B hml hv
  obtain ⟨rfl, hsz, hP, hK, hG, hD0⟩ := hv
  subst hsz
  have hlocks := B.notSynchronized
  have hl := lv_entry av (n := maxL) hal
  rw [lg_entry_eq]
  exact body p e s m av.toArray below meth c _ _ ⟨B.exec, B.bytes, hml, findClass_of_methodNamed B.named, atoms_spec (ws := ws) B.pre⟩ hK hG (hD0.self (sz := s.heap.size)) (fun q h => Or.inr h)
    (fun H locs ls pc hP2 hS d => W.iret (v := r) B.exec B.bytes B.returns (fun t ht hW => ⟨⟨r, (), rfl, rfl, by show va_P D vwCl w' t.heap; rw [ht]; exact hP2⟩, hS.F ht⟩) hS.2.2 d) _ hP va_S.rf hl
theorem kM_z {r : Int32} (hy : plainFor y = true) (hw : ws = Cond.code y cc maxL (some .boolean) :: ws') (hal : (lg_sl av).length ≤ maxL)
    (body : ∀ (p : Program) (e : Env) (s : State) (m : MethodId) (args : Array Value) (below : List Frame) (meth : Method) (c : Code) (A : Nat → Prop) (Q : State → Prop), CallFix p m c cc maxL s args ws y.cls → KK D cI s → GS A s s.heap → va_D A w → (∀ q, s.heap.size ≤ q → A q) →
      (∀ (H : Heap) (locs : List Loc) (ls : Array Slot) (pc : Nat), r = 0 ∨ r = 1 → va_P D vwCl w' H → va_S A s.heap H locs → decode cc pc = .ok (.ireturn, 1) → W p l e rm s m args below meth c H locs 0 0 Q (F0 m pc ls [.int r])) →
      ∀ ls : Array Slot, va_P D vwCl w s.heap → va_S A s.heap s.heap [] → lv_has ls maxL (lv_args 0 av) → W p l e rm s m args below meth c s.heap [] 0 0 Q (F0 m 0 ls [])) :
    Met l y ws rm (kPc D cI w sz av) (kQi D w w' sz r) 0 0 (va_A w sz) := by
  refine k_ofW (cc := cc) (maxL := maxL) (ret := some .boolean) hy hw ?_
  intro p e s m args below meth c s₁ B hml hv
  obtain ⟨rfl, hsz, hP, hK, hG, hD0⟩ := hv
  subst hsz
  have hlocks := B.notSynchronized
  have hl := lv_entry av (n := maxL) hal
  rw [lg_entry_eq]
  exact body p e s m av.toArray below meth c _ _ ⟨B.exec, B.bytes, hml, findClass_of_methodNamed B.named, atoms_spec (ws := ws) B.pre⟩ hK hG (hD0.self (sz := s.heap.size)) (fun q h => Or.inr h)
    (fun H locs ls pc hr hP2 hS d => W.zret (v := r) B.exec B.bytes B.returns (by rcases hr with rfl | rfl <;> rfl) (fun t ht hW => ⟨⟨r, (), rfl, rfl, by show va_P D vwCl w' t.heap; rw [ht]; exact hP2⟩, hS.F ht⟩) hS.2.2 d) _ hP va_S.rf hl
theorem kM_v (hy : plainFor y = true) (hw : ws = Cond.code y cc maxL none :: ws') (hal : (lg_sl av).length ≤ maxL)
    (body : ∀ (p : Program) (e : Env) (s : State) (m : MethodId) (args : Array Value) (below : List Frame) (meth : Method) (c : Code) (A : Nat → Prop) (Q : State → Prop), CallFix p m c cc maxL s args ws y.cls → KK D cI s → GS A s s.heap → va_D A w → (∀ q, s.heap.size ≤ q → A q) →
      (∀ (H : Heap) (locs : List Loc) (ls : Array Slot) (pc : Nat), va_P D vwCl w' H → va_S A s.heap H locs → decode cc pc = .ok (.return_, 1) → W p l e rm s m args below meth c H locs 0 0 Q (F0 m pc ls [])) →
      ∀ ls : Array Slot, va_P D vwCl w s.heap → va_S A s.heap s.heap [] → lv_has ls maxL (lv_args 0 av) → W p l e rm s m args below meth c s.heap [] 0 0 Q (F0 m 0 ls [])) :
    Met l y ws rm (kPc D cI w sz av) (kQv D w w' sz) 0 0 (va_A w sz) := by
  refine k_ofW (cc := cc) (maxL := maxL) (ret := none) hy hw ?_
  intro p e s m args below meth c s₁ B hml hv
  obtain ⟨rfl, hsz, hP, hK, hG, hD0⟩ := hv
  subst hsz
  have hlocks := B.notSynchronized
  have hl := lv_entry av (n := maxL) hal
  rw [lg_entry_eq]
  exact body p e s m av.toArray below meth c _ _ ⟨B.exec, B.bytes, hml, findClass_of_methodNamed B.named, atoms_spec (ws := ws) B.pre⟩ hK hG (hD0.self (sz := s.heap.size)) (fun q h => Or.inr h)
    (fun H locs ls pc hP2 hS d => W.vret B.exec B.bytes B.returns (fun t ht hW => ⟨⟨(), rfl, trivial, by show va_P D vwCl w' t.heap; rw [ht]; exact hP2⟩, hS.F ht⟩) hS.2.2 d) _ hP va_S.rf hl
theorem kM_l {r : Int64} (hy : plainFor y = true) (hw : ws = Cond.code y cc maxL (some .long) :: ws') (hal : (lg_sl av).length ≤ maxL)
    (body : ∀ (p : Program) (e : Env) (s : State) (m : MethodId) (args : Array Value) (below : List Frame) (meth : Method) (c : Code) (A : Nat → Prop) (Q : State → Prop), CallFix p m c cc maxL s args ws y.cls → KK D cI s → GS A s s.heap → va_D A w → (∀ q, s.heap.size ≤ q → A q) →
      (∀ (H : Heap) (locs : List Loc) (ls : Array Slot) (pc : Nat), va_P D vwCl w' H → va_S A s.heap H locs → decode cc pc = .ok (.lreturn, 1) → W p l e rm s m args below meth c H locs 0 0 Q (F0 m pc ls [.long r])) →
      ∀ ls : Array Slot, va_P D vwCl w s.heap → va_S A s.heap s.heap [] → lv_has ls maxL (lv_args 0 av) → W p l e rm s m args below meth c s.heap [] 0 0 Q (F0 m 0 ls [])) :
    Met l y ws rm (kPc D cI w sz av) (kQl D w w' sz r) 0 0 (va_A w sz) := by
  refine k_ofW (cc := cc) (maxL := maxL) (ret := some .long) hy hw ?_
  intro p e s m args below meth c s₁ B hml hv
  obtain ⟨rfl, hsz, hP, hK, hG, hD0⟩ := hv
  subst hsz
  have hlocks := B.notSynchronized
  have hl := lv_entry av (n := maxL) hal
  rw [lg_entry_eq]
  exact body p e s m av.toArray below meth c _ _ ⟨B.exec, B.bytes, hml, findClass_of_methodNamed B.named, atoms_spec (ws := ws) B.pre⟩ hK hG (hD0.self (sz := s.heap.size)) (fun q h => Or.inr h)
    (fun H locs ls pc hP2 hS d => W.lret (v := r) B.exec B.bytes B.returns (fun t ht hW => ⟨⟨r, (), rfl, rfl, by show va_P D vwCl w' t.heap; rw [ht]; exact hP2⟩, hS.F ht⟩) hS.2.2 d) _ hP va_S.rf hl
end KM
/-- the cells at these places are new -/
def kset : va_W → List Nat → va_W → va_W
  | ws, i :: is, c :: cs => kset (ws.set i c) is cs
  | ws, _, _ => ws
theorem kset_get : ∀ (is : List Nat) (cs ws : va_W), va_nd is = true → is.length = cs.length → ∀ (k : Nat) (q : Nat × va_E), (kset ws is cs)[k]? = some q → (∃ j : Nat, is[j]? = some k ∧ cs[j]? = some q) ∨ (k ∉ is ∧ ws[k]? = some q)
  | [], [], ws, _, _, k, q, h => Or.inr ⟨List.not_mem_nil, h⟩
  | [], _ :: _, ws, _, hl, _, _, _ => by cases hl
  | _ :: _, [], ws, _, hl, _, _, _ => by cases hl
  | i :: is, c :: cs, ws, hn, hl, k, q, h => by
    simp only [va_nd, Bool.and_eq_true, decide_eq_true_eq] at hn
    rcases kset_get is cs (ws.set i c) hn.2 (Nat.succ.inj hl) k q h with ⟨j, h1, h2⟩ | ⟨h1, h2⟩
    · exact Or.inl ⟨j + 1, h1, h2⟩
    · by_cases hk : k = i
      · subst hk
        have hlt : k < ws.length := by
          have h3 := (List.getElem?_eq_some_iff.mp h2).1
          rwa [List.length_set] at h3
        rw [List.getElem?_set_self hlt] at h2
        exact Or.inl ⟨0, rfl, h2⟩
      · rw [List.getElem?_set_ne (Ne.symm hk)] at h2
        exact Or.inr ⟨fun z => by rcases List.mem_cons.mp z with z | z; exact hk z; exact h1 z, h2⟩
theorem ksame {w w' : va_W} (h : w'.map (·.1) = w.map (·.1)) {k : Nat} {q : Nat × va_E} (hq : w'[k]? = some q) : ∃ q0, w[k]? = some q0 ∧ q0.1 = q.1 := by
  have h1 : (w'.map (·.1))[k]? = some q.1 := by rw [List.getElem?_map, hq]; rfl
  rw [h, List.getElem?_map] at h1
  cases h2 : w[k]? with
  | none => rw [h2] at h1; cases h1
  | some q0 => rw [h2] at h1; exact ⟨q0, rfl, Option.some.inj h1⟩
theorem kD_same {A : Nat → Prop} {w w' : va_W} (h : w'.map (·.1) = w.map (·.1)) (hD : va_D A w) : va_D A w' := by
  refine ⟨fun i j p q hi hj hpq => ?_, fun k q hq => ?_⟩
  · obtain ⟨p0, h1, h2⟩ := ksame h hi
    obtain ⟨q0, h3, h4⟩ := ksame h hj
    exact hD.1 i j p0 q0 h1 h3 (by rw [h2, h4, hpq])
  · obtain ⟨q0, h1, h2⟩ := ksame h hq
    rw [← h2]
    exact hD.2 k q0 h1
theorem kat {ws wc : va_W} {is : List Nat} (hC : is.map (fun i => ws[i]?) = wc.map some) {j i : Nat} (hi : is[j]? = some i) : ∃ q, wc[j]? = some q ∧ ws[i]? = some q := by
  have h1 : (is.map (fun i => ws[i]?))[j]? = some (ws[i]?) := by rw [List.getElem?_map, hi]; rfl
  rw [hC, List.getElem?_map] at h1
  cases h2 : wc[j]? with
  | none => rw [h2] at h1; cases h1
  | some q => rw [h2] at h1; exact ⟨q, rfl, (Option.some.inj h1).symm⟩
theorem kat2 {ws wc : va_W} {is : List Nat} (hC : is.map (fun i => ws[i]?) = wc.map some) {j : Nat} {q : Nat × va_E} (hq : wc[j]? = some q) : ∃ i, is[j]? = some i ∧ ws[i]? = some q := by
  have h1 : (is.map (fun i => ws[i]?))[j]? = some (some q) := by rw [hC, List.getElem?_map, hq]; rfl
  rw [List.getElem?_map] at h1
  cases hi : is[j]? with
  | none => rw [hi] at h1; cases h1
  | some i => rw [hi] at h1; exact ⟨i, rfl, Option.some.inj h1⟩
/-- behind a call: the caller's world with the callee's cells put back where they stood -/
theorem kjoin {A : Nat → Prop} {D : va_G} {ws wc wc' : va_W} {H H1 : Heap} (hP : va_P D vwCl ws H) (hD : va_D A ws) (is : List Nat) (hn : va_nd is = true) (hC : is.map (fun i => ws[i]?) = wc.map some) (hw : wc'.map (·.1) = wc.map (·.1))
    (hk : ∀ q : Nat, q < H.size → ¬ va_A wc H.size q → H1[q]? = H[q]?) (hP1 : va_P D vwCl wc' H1) : va_P D vwCl (kset ws is wc') H1 ∧ va_D A (kset ws is wc') := by
  have hlen : is.length = wc'.length := by
    have h1 := congrArg List.length hC
    have h2 := congrArg List.length hw
    simp only [List.length_map] at h1 h2
    omega
  refine ⟨fun k q hq => ?_, ?_⟩
  · rcases kset_get is wc' ws hn hlen k q hq with ⟨j, h1, h2⟩ | ⟨h1, h2⟩
    · exact hP1 j q h2
    · have hlt := (hP k q h2).lt
      refine (hP k q h2).kept (hk q.1 hlt ?_)
      intro z
      rcases z with ⟨j, e, h3⟩ | z
      · obtain ⟨i, h4, h5⟩ := kat2 hC h3
        have h6 := hD.1 k i q (q.1, e) h2 h5 rfl
        subst h6
        exact h1 (List.mem_of_getElem? h4)
      · omega
  · have key : ∀ (k : Nat) (q : Nat × va_E), (kset ws is wc')[k]? = some q → ∃ q0, ws[k]? = some q0 ∧ q0.1 = q.1 := by
      intro k q hq
      rcases kset_get is wc' ws hn hlen k q hq with ⟨j, h1, h2⟩ | ⟨h1, h2⟩
      · obtain ⟨q0, h3, h4⟩ := ksame hw h2
        obtain ⟨q1, h5, h6⟩ := kat hC h1
        cases h3.symm.trans h5
        exact ⟨q0, h6, h4⟩
      · exact ⟨q, h2, rfl⟩
    refine ⟨fun i j p q hi hj hpq => ?_, fun k q hq => ?_⟩
    · obtain ⟨p0, h1, h2⟩ := key i p hi
      obtain ⟨q0, h3, h4⟩ := key j q hj
      exact hD.1 i j p0 q0 h1 h3 (by rw [h2, h4, hpq])
    · obtain ⟨q0, h1, h2⟩ := key k q hq
      rw [← h2]
      exact hD.2 k q0 h1
section KC
variable {p : Program} {l : Launch} {e : Env} {R : Room} {s : State} {m : MethodId} {args : Array Value} {below : List Frame} {meth : Method} {c : Code} {H : Heap} {locs : List Loc} {cells slots : Nat} {Q : State → Prop}
variable {cc : ByteArray} {pc : Nat} {ls : Array Slot} {rest stk : List Value} {A : Nat → Prop} {D : va_G} {cI : Nat → ClassId} {ws wc wc' : va_W} {own C host : String} {Ts : List Cond}
variable {y : MethodName} {bytes : ByteArray} {mL nL n index : Nat} {ret : Option FieldType} {wsy : List Cond} {rm : Room} {av : List Value} {b : Nat} {r : Int32}
theorem kpre (hK : KK D cI s) (hG : GS A s s.heap) (hA : ∀ q, s.heap.size ≤ q → A q) (hP : va_P D vwCl ws H) (hD : va_D A ws) (hS : va_S A s.heap H locs) (is : List Nat) (hn : va_nd is = true) (hC : is.map (fun i => ws[i]?) = wc.map some) : PreS s H (kPc D cI wc H.size av) av := by
  have hF := va_free (wc := wc) hD hS hA is hC
  refine ⟨kPc_blind, fun U hU hW => ⟨rfl, by rw [hU], ?_, hK.warm hW, ?_, (hD.sub is hn hC).weaken (fun _ _ _ _ => trivial)⟩⟩
  · rw [hU]
    intro j q hq
    obtain ⟨i, h1, h2⟩ := kat2 hC hq
    exact hP i q h2
  · rw [hU]
    exact ((hG.kept (fun a h1 h2 => hS.2.1 a h1 h2)).narrow hF).moved hW.alike
theorem kfin_i (hA : ∀ q, s.heap.size ≤ q → A q) (hP : va_P D vwCl ws H) (hD : va_D A ws) (hS : va_S A s.heap H locs) (is : List Nat) (hn : va_nd is = true) (hC : is.map (fun i => ws[i]?) = wc.map some) (hw : wc'.map (·.1) = wc.map (·.1)) {a : Array Value}
    (hr : va_Run p l e R s m args below meth c H locs cells slots 0 0 (F0 m pc ls stk) rest (kQi D wc wc' H.size r a) (va_A wc H.size))
    (kk : ∀ (H1 : Heap) (locs1 : List Loc), va_P D vwCl (kset ws is wc') H1 → va_D A (kset ws is wc') → va_S A s.heap H1 locs1 → W p l e R s m args below meth c H1 locs1 cells slots Q (F0 m (pc + 3) ls (.int r :: rest))) :
    W p l e R s m args below meth c H locs cells slots Q (F0 m pc ls stk) := by
  have hF := va_free (wc := wc) hD hS hA is hC
  refine va_calli hr hS (fun q _ h => hF q h) hF (fun r1 u t H1 locs1 ht hvm hw1 hB hz hk hS1 => ?_)
  subst hw1
  rw [ht] at hB
  obtain ⟨h1, h2⟩ := kjoin hP hD is hn hC hw hk hB
  exact kk H1 locs1 h1 h2 hS1
theorem kfin_l {r : Int64} (hA : ∀ q, s.heap.size ≤ q → A q) (hP : va_P D vwCl ws H) (hD : va_D A ws) (hS : va_S A s.heap H locs) (is : List Nat) (hn : va_nd is = true) (hC : is.map (fun i => ws[i]?) = wc.map some) (hw : wc'.map (·.1) = wc.map (·.1)) {a : Array Value}
    (hr : va_Run p l e R s m args below meth c H locs cells slots 0 0 (F0 m pc ls stk) rest (kQl D wc wc' H.size r a) (va_A wc H.size))
    (kk : ∀ (H1 : Heap) (locs1 : List Loc), va_P D vwCl (kset ws is wc') H1 → va_D A (kset ws is wc') → va_S A s.heap H1 locs1 → W p l e R s m args below meth c H1 locs1 cells slots Q (F0 m (pc + 3) ls (.long r :: rest))) :
    W p l e R s m args below meth c H locs cells slots Q (F0 m pc ls stk) := by
  have hF := va_free (wc := wc) hD hS hA is hC
  refine va_calll hr hS (fun q _ h => hF q h) hF (fun r1 u t H1 locs1 ht hvm hw1 hB hz hk hS1 => ?_)
  subst hw1
  rw [ht] at hB
  obtain ⟨h1, h2⟩ := kjoin hP hD is hn hC hw hk hB
  exact kk H1 locs1 h1 h2 hS1
theorem kfin_v (hA : ∀ q, s.heap.size ≤ q → A q) (hP : va_P D vwCl ws H) (hD : va_D A ws) (hS : va_S A s.heap H locs) (is : List Nat) (hn : va_nd is = true) (hC : is.map (fun i => ws[i]?) = wc.map some) (hw : wc'.map (·.1) = wc.map (·.1)) {a : Array Value}
    (hr : va_Run p l e R s m args below meth c H locs cells slots 0 0 (F0 m pc ls stk) rest (kQv D wc wc' H.size a) (va_A wc H.size))
    (kk : ∀ (H1 : Heap) (locs1 : List Loc), va_P D vwCl (kset ws is wc') H1 → va_D A (kset ws is wc') → va_S A s.heap H1 locs1 → W p l e R s m args below meth c H1 locs1 cells slots Q (F0 m (pc + 3) ls rest)) :
    W p l e R s m args below meth c H locs cells slots Q (F0 m pc ls stk) := by
  have hF := va_free (wc := wc) hD hS hA is hC
  refine va_callv hr hS (fun q _ h => hF q h) hF (fun u t H1 locs1 ht hvm hw1 hB hz hk hS1 => ?_)
  rw [ht] at hB
  obtain ⟨h1, h2⟩ := kjoin hP hD is hn hC hw hk hB
  exact kk H1 locs1 h1 h2 hS1
/-- calls, a row each: static (S), of a nest mate (N), of an object (V); an int (i) or nothing (v) comes back -/
theorem kc_Si (F : CallFix p m c cc nL s args Ts own) (hK : KK D cI s) (hG : GS A s s.heap) (hA : ∀ q, s.heap.size ≤ q → A q)
    (hM : Met l y wsy rm (kPc D cI wc H.size av) (kQi D wc wc' H.size r) 0 0 (va_A wc H.size)) (cw : CallB R s args own index y bytes mL ret wsy rm 0 0 n ∧ (Cond.static y).before args s = true)
    (hP : va_P D vwCl ws H) (hD : va_D A ws) (hS : va_S A s.heap H locs) (is : List Nat) (hn : va_nd is = true) (hC : is.map (fun i => ws[i]?) = wc.map some) (hw : wc'.map (·.1) = wc.map (·.1))
    (hav : av.length = n) (hl : ls.size = nL) (hstk : stk = av.reverse ++ rest) (hroom : (rest.map fun v => v.category).sum ≤ 8) (hf : cells ≤ R.cells ∧ slots ≤ R.slots) (hdg : decode cc pc = .ok (.invokestatic index, 3))
    (kk : ∀ (H1 : Heap) (locs1 : List Loc), va_P D vwCl (kset ws is wc') H1 → va_D A (kset ws is wc') → va_S A s.heap H1 locs1 → W p l e R s m args below meth c H1 locs1 cells slots Q (F0 m (pc + 3) ls (.int r :: rest))) :
    W p l e R s m args below meth c H locs cells slots Q (F0 m pc ls stk) :=
  kfin_i hA hP hD hS is hn hC hw (va_runS F hM cw (kpre hK hG hA hP hD hS is hn hC) rfl hav hl hstk (lv_room hroom) hdg hf) kk
theorem kc_Sl {r : Int64} (F : CallFix p m c cc nL s args Ts own) (hK : KK D cI s) (hG : GS A s s.heap) (hA : ∀ q, s.heap.size ≤ q → A q)
    (hM : Met l y wsy rm (kPc D cI wc H.size av) (kQl D wc wc' H.size r) 0 0 (va_A wc H.size)) (cw : CallB R s args own index y bytes mL ret wsy rm 0 0 n ∧ (Cond.static y).before args s = true)
    (hP : va_P D vwCl ws H) (hD : va_D A ws) (hS : va_S A s.heap H locs) (is : List Nat) (hn : va_nd is = true) (hC : is.map (fun i => ws[i]?) = wc.map some) (hw : wc'.map (·.1) = wc.map (·.1))
    (hav : av.length = n) (hl : ls.size = nL) (hstk : stk = av.reverse ++ rest) (hroom : (rest.map fun v => v.category).sum ≤ 8) (hf : cells ≤ R.cells ∧ slots ≤ R.slots) (hdg : decode cc pc = .ok (.invokestatic index, 3))
    (kk : ∀ (H1 : Heap) (locs1 : List Loc), va_P D vwCl (kset ws is wc') H1 → va_D A (kset ws is wc') → va_S A s.heap H1 locs1 → W p l e R s m args below meth c H1 locs1 cells slots Q (F0 m (pc + 3) ls (.long r :: rest))) :
    W p l e R s m args below meth c H locs cells slots Q (F0 m pc ls stk) :=
  kfin_l hA hP hD hS is hn hC hw (va_runS F hM cw (kpre hK hG hA hP hD hS is hn hC) rfl hav hl hstk (lv_room hroom) hdg hf) kk
theorem kc_Sv (F : CallFix p m c cc nL s args Ts own) (hK : KK D cI s) (hG : GS A s s.heap) (hA : ∀ q, s.heap.size ≤ q → A q)
    (hM : Met l y wsy rm (kPc D cI wc H.size av) (kQv D wc wc' H.size) 0 0 (va_A wc H.size)) (cw : CallB R s args own index y bytes mL ret wsy rm 0 0 n ∧ (Cond.static y).before args s = true)
    (hP : va_P D vwCl ws H) (hD : va_D A ws) (hS : va_S A s.heap H locs) (is : List Nat) (hn : va_nd is = true) (hC : is.map (fun i => ws[i]?) = wc.map some) (hw : wc'.map (·.1) = wc.map (·.1))
    (hav : av.length = n) (hl : ls.size = nL) (hstk : stk = av.reverse ++ rest) (hroom : (rest.map fun v => v.category).sum ≤ 8) (hf : cells ≤ R.cells ∧ slots ≤ R.slots) (hdg : decode cc pc = .ok (.invokestatic index, 3))
    (kk : ∀ (H1 : Heap) (locs1 : List Loc), va_P D vwCl (kset ws is wc') H1 → va_D A (kset ws is wc') → va_S A s.heap H1 locs1 → W p l e R s m args below meth c H1 locs1 cells slots Q (F0 m (pc + 3) ls rest)) :
    W p l e R s m args below meth c H locs cells slots Q (F0 m pc ls stk) :=
  kfin_v hA hP hD hS is hn hC hw (va_runS F hM cw (kpre hK hG hA hP hD hS is hn hC) rfl hav hl hstk (lv_room hroom) hdg hf) kk
theorem kc_Ni (F : CallFix p m c cc nL s args Ts own) (hK : KK D cI s) (hG : GS A s s.heap) (hA : ∀ q, s.heap.size ≤ q → A q)
    (hM : Met l y wsy rm (kPc D cI wc H.size av) (kQi D wc wc' H.size r) 0 0 (va_A wc H.size)) (cw : va_CN R s args own index y host bytes mL ret wsy rm 0 0 n ∧ (Cond.static y).before args s = true ∧ True)
    (hP : va_P D vwCl ws H) (hD : va_D A ws) (hS : va_S A s.heap H locs) (is : List Nat) (hn : va_nd is = true) (hC : is.map (fun i => ws[i]?) = wc.map some) (hw : wc'.map (·.1) = wc.map (·.1))
    (hav : av.length = n) (hl : ls.size = nL) (hstk : stk = av.reverse ++ rest) (hroom : (rest.map fun v => v.category).sum ≤ 8) (hf : cells ≤ R.cells ∧ slots ≤ R.slots) (hdg : decode cc pc = .ok (.invokestatic index, 3))
    (kk : ∀ (H1 : Heap) (locs1 : List Loc), va_P D vwCl (kset ws is wc') H1 → va_D A (kset ws is wc') → va_S A s.heap H1 locs1 → W p l e R s m args below meth c H1 locs1 cells slots Q (F0 m (pc + 3) ls (.int r :: rest))) :
    W p l e R s m args below meth c H locs cells slots Q (F0 m pc ls stk) :=
  kfin_i hA hP hD hS is hn hC hw (va_runSN F hM cw (kpre hK hG hA hP hD hS is hn hC) rfl hav hl hstk (lv_room hroom) hdg hf) kk
theorem kpreV (hK : KK D cI s) (hG : GS A s s.heap) (hA : ∀ q, s.heap.size ≤ q → A q) (hP : va_P D vwCl ws H) (hD : va_D A ws) (hS : va_S A s.heap H locs) (is : List Nat) (hn : va_nd is = true) (hC : is.map (fun i => ws[i]?) = wc.map some)
    {ci q0 N : Nat} {T : u_T} {fs : List Value} (hcl : vwCl[ci]? = some (C, T, N)) (hq0 : wc[q0]? = some (b, .inr (ci, fs))) : PreV s H C b (kPc D cI wc H.size (.ref b :: av)) av := by
  obtain ⟨h1, h2⟩ := kpre (av := .ref b :: av) hK hG hA hP hD hS is hn hC
  have hPc : va_P D vwCl wc H := fun j q hq => by
    obtain ⟨i, h1, h2⟩ := kat2 hC hq
    exact hP i q h2
  exact ⟨h1, va_recv hK.1 hPc (ci := ci) (q0 := q0) hcl hq0, h2⟩
theorem kc_Vi (F : CallFix p m c cc nL s args Ts own) (hK : KK D cI s) (hG : GS A s s.heap) (hA : ∀ q, s.heap.size ≤ q → A q)
    (hM : Met l y wsy rm (kPc D cI wc H.size (.ref b :: av)) (kQi D wc wc' H.size r) 0 0 (va_A wc H.size)) (cw : CallW R s args own C index y bytes mL ret wsy rm 0 0 n)
    (hP : va_P D vwCl ws H) (hD : va_D A ws) (hS : va_S A s.heap H locs) (is : List Nat) (hn : va_nd is = true) (hC : is.map (fun i => ws[i]?) = wc.map some) (hw : wc'.map (·.1) = wc.map (·.1))
    (q0 : Nat) {ci N : Nat} {T : u_T} {fs : List Value} (hcl : vwCl[ci]? = some (C, T, N)) (hq0 : wc[q0]? = some (b, .inr (ci, fs)))
    (hav : av.length = n) (hl : ls.size = nL) (hstk : stk = av.reverse ++ .ref b :: rest) (hroom : (rest.map fun v => v.category).sum ≤ 8) (hf : cells ≤ R.cells ∧ slots ≤ R.slots) (hdg : decode cc pc = .ok (.invokevirtual index, 3))
    (kk : ∀ (H1 : Heap) (locs1 : List Loc), va_P D vwCl (kset ws is wc') H1 → va_D A (kset ws is wc') → va_S A s.heap H1 locs1 → W p l e R s m args below meth c H1 locs1 cells slots Q (F0 m (pc + 3) ls (.int r :: rest))) :
    W p l e R s m args below meth c H locs cells slots Q (F0 m pc ls stk) :=
  kfin_i hA hP hD hS is hn hC hw (va_runV F hM cw (kpreV hK hG hA hP hD hS is hn hC hcl hq0) rfl hav hl hstk (lv_room hroom) hdg hf) kk
theorem kc_Vv (F : CallFix p m c cc nL s args Ts own) (hK : KK D cI s) (hG : GS A s s.heap) (hA : ∀ q, s.heap.size ≤ q → A q)
    (hM : Met l y wsy rm (kPc D cI wc H.size (.ref b :: av)) (kQv D wc wc' H.size) 0 0 (va_A wc H.size)) (cw : CallW R s args own C index y bytes mL ret wsy rm 0 0 n)
    (hP : va_P D vwCl ws H) (hD : va_D A ws) (hS : va_S A s.heap H locs) (is : List Nat) (hn : va_nd is = true) (hC : is.map (fun i => ws[i]?) = wc.map some) (hw : wc'.map (·.1) = wc.map (·.1))
    (q0 : Nat) {ci N : Nat} {T : u_T} {fs : List Value} (hcl : vwCl[ci]? = some (C, T, N)) (hq0 : wc[q0]? = some (b, .inr (ci, fs)))
    (hav : av.length = n) (hl : ls.size = nL) (hstk : stk = av.reverse ++ .ref b :: rest) (hroom : (rest.map fun v => v.category).sum ≤ 8) (hf : cells ≤ R.cells ∧ slots ≤ R.slots) (hdg : decode cc pc = .ok (.invokevirtual index, 3))
    (kk : ∀ (H1 : Heap) (locs1 : List Loc), va_P D vwCl (kset ws is wc') H1 → va_D A (kset ws is wc') → va_S A s.heap H1 locs1 → W p l e R s m args below meth c H1 locs1 cells slots Q (F0 m (pc + 3) ls rest)) :
    W p l e R s m args below meth c H locs cells slots Q (F0 m pc ls stk) :=
  kfin_v hA hP hD hS is hn hC hw (va_runV F hM cw (kpreV hK hG hA hP hD hS is hn hC hcl hq0) rfl hav hl hstk (lv_room hroom) hdg hf) kk
end KC
