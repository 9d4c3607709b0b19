/-! constructors: what a new object's cells are; makings of arrays and objects in one row each -/
def kadr (l : List Nat) : Nat → Nat := fun k => l.getD k 0
abbrev kZ : kF := fun _ => 0
abbrev kSe0 : kF := upd (upd (upd kZ 0 18) 1 2) 2 1
abbrev kS0 : kSt := (0, 0, 0, 1023, 0, 0, kZ, kZ, 0, 0, kZ, kZ, kSe0)
abbrev kS0s : Nat → kSt := fun _ => kS0
abbrev txtW (cI : Nat → ClassId) (a : Nat → Nat) : va_W := [(a 0, .inr (0, [.ref (a 1), .int 0])), (a 1, .inl (cI 0, 120, .inl kZ))]
abbrev pinW (cI : Nat → ClassId) (a : Nat → Nat) : va_W := [(a 0, .inr (2, [.ref (a 1), .ref (a 2), .int 1023, .int 0, .int 0])), (a 1, .inl (cI 0, 10, .inl kZ)), (a 2, .inl (cI 0, 10, .inl kZ))]
abbrev sheW (cI : Nat → ClassId) (a : Nat → Nat) : va_W := [(a 0, .inr (3, [.ref (a 1), .ref (a 2), .int 0, .int 0])), (a 1, .inl (cI 0, 21, .inl kZ)), (a 2, .inl (cI 0, 11, .inl kZ))]
abbrev staW (cI : Nat → ClassId) (a : Nat → Nat) : va_W := stW cI a kS0
abbrev hisW (cI : Nat → ClassId) (u : (Nat → Nat) × (Nat → Nat → Nat)) : va_W := [(u.1 0, .inr (1, [.ref (u.1 1), .int 0, .int 0])), (u.1 1, .inl (cI 2, 14, .inr (.inr (.inr (.inr (rowF 14 u.2))))))] ++ famW cI 14 u.2 kS0s
abbrev sloW (cI : Nat → ClassId) (u : (Nat → Nat) × (Nat → Nat → Nat)) : va_W := [(u.1 0, .inr (4, [.ref (u.1 1), .ref (u.1 2)])), (u.1 1, .inl (cI 2, 2, .inr (.inr (.inr (.inr (rowF 2 u.2)))))), (u.1 2, .inl (cI 1, 2, .inl kZ))] ++ famW cI 2 u.2 kS0s
abbrev kHad : Type := (Nat → Nat) × (Nat → Nat → Nat) × (Nat → Nat → Nat)
abbrev decW (cI : Nat → ClassId) (u : kHad) : va_W := [(u.1 0, .inr (6, [.ref (u.1 1), .ref (u.1 3), .ref (u.1 11), .ref (u.1 19), .ref (u.1 21)])), (u.1 1, .inr (0, [.ref (u.1 2), .int 0])), (u.1 2, .inl (cI 0, 120, .inl kZ)),
  (u.1 3, .inr (5, [.ref (u.1 4), .ref (u.1 7), .ref (u.1 10), .int 0, .int 0, .int 0])), (u.1 4, .inr (2, [.ref (u.1 5), .ref (u.1 6), .int 1023, .int 0, .int 0])), (u.1 5, .inl (cI 0, 10, .inl kZ)), (u.1 6, .inl (cI 0, 10, .inl kZ)), (u.1 7, .inr (3, [.ref (u.1 8), .ref (u.1 9), .int 0, .int 0])), (u.1 8, .inl (cI 0, 21, .inl kZ)), (u.1 9, .inl (cI 0, 11, .inl kZ)), (u.1 10, .inl (cI 0, 3, .inl kSe0)),
  (u.1 11, .inr (5, [.ref (u.1 12), .ref (u.1 15), .ref (u.1 18), .int 0, .int 0, .int 0])), (u.1 12, .inr (2, [.ref (u.1 13), .ref (u.1 14), .int 1023, .int 0, .int 0])), (u.1 13, .inl (cI 0, 10, .inl kZ)), (u.1 14, .inl (cI 0, 10, .inl kZ)), (u.1 15, .inr (3, [.ref (u.1 16), .ref (u.1 17), .int 0, .int 0])), (u.1 16, .inl (cI 0, 21, .inl kZ)), (u.1 17, .inl (cI 0, 11, .inl kZ)), (u.1 18, .inl (cI 0, 3, .inl kSe0)),
  (u.1 19, .inr (1, [.ref (u.1 20), .int 0, .int 0])), (u.1 20, .inl (cI 2, 14, .inr (.inr (.inr (.inr (rowF 14 u.2.1)))))), (u.1 21, .inr (4, [.ref (u.1 22), .ref (u.1 23)])), (u.1 22, .inl (cI 2, 2, .inr (.inr (.inr (.inr (rowF 2 u.2.2)))))), (u.1 23, .inl (cI 1, 2, .inl kZ))] ++ (famW cI 14 u.2.1 kS0s ++ famW cI 2 u.2.2 kS0s)
theorem kperm3 {X F1 Y F2 : va_W} : ((X ++ F1) ++ (Y ++ F2)).Perm ((X ++ Y) ++ (F1 ++ F2)) := by
  simp only [List.append_assoc]
  refine List.Perm.append_left X ?_
  rw [← List.append_assoc, ← List.append_assoc]
  exact List.Perm.append_right _ List.perm_append_comm
theorem kperm2 {X F Y : va_W} : ((X ++ F) ++ Y).Perm ((X ++ Y) ++ F) := by
  simp only [List.append_assoc]
  exact List.Perm.append_left X List.perm_append_comm
/-- a family grows at its end -/
def kpush (had : Nat → Nat → Nat) (i : Nat) (a : Nat → Nat) : Nat → Nat → Nat := fun j => if j = i then a else had j
theorem famW_push {cI : Nat → ClassId} {i : Nat} {had : Nat → Nat → Nat} {a : Nat → Nat} {hs : Nat → kSt} : famW cI i had hs ++ stW cI a (hs i) = famW cI (i + 1) (kpush had i a) hs := by
  unfold famW
  rw [List.range_succ, List.flatMap_append]
  have e : (List.range i).flatMap (fun j => stW cI (had j) (hs j)) = (List.range i).flatMap (fun j => stW cI (kpush had i a j) (hs j)) := by
    rw [List.flatMap_def, List.flatMap_def]
    congr 1
    refine List.map_congr_left (fun j hj => ?_)
    have h : ¬ j = i := Nat.ne_of_lt (List.mem_range.mp hj)
    simp only [kpush, if_neg h]
  rw [e]
  congr 1
  have e2 : kpush had i a i = a := if_pos rfl
  simp only [List.flatMap_cons, List.flatMap_nil, List.append_nil, e2]
theorem rowF_push {i : Nat} {had : Nat → Nat → Nat} {a : Nat → Nat} : va_up (rowF i had) i (some (a 0)) = rowF (i + 1) (kpush had i a) := by
  funext j
  unfold va_up rowF kpush
  by_cases h : j = i
  · rw [if_pos h, if_pos (by omega), if_pos h]
  · rw [if_neg h]
    by_cases h2 : j < i
    · rw [if_pos h2, if_pos (by omega), if_neg h]
    · rw [if_neg h2, if_neg (by omega)]
def kPn (D : va_G) (cI : Nat → ClassId) (w : va_W) (sz : Nat) (av : List Value) : Array Value → State → Prop := va_Pc av (fun U => U.heap.size = sz ∧ va_P D vwCl w U.heap ∧ KK D cI U ∧ GS (va_A w sz) U U.heap ∧ va_D (fun _ => True) w ∧ va_AO RX6 U)
def kQn {S : Type} (D : va_G) (w : va_W) (post : S → Prop) (w' : S → va_W) (sz : Nat) : Array Value → State → Outcome → State → Prop := va_Qv post (fun u t => va_P D vwCl (w' u) t.heap ∧ va_D (va_A w sz) (w' u)) (va_A w sz)
theorem kPn_blind {D : va_G} {cI : Nat → ClassId} {w : va_W} {sz : Nat} {av : List Value} : FrameBlind (kPn D cI w sz av) := fun a U g mk q => by
  obtain ⟨q0, q1, qP, qK, qG, qD, qO⟩ := q
  exact ⟨q0, q1, qP, KK.same (u := U) (U := U.calling g mk a) rfl qK, GS.moved (u := U) (U := U.calling g mk a) (Vm.Alike.refl U.vm) qG, qD, va_AO.moved (u := U) (U := U.calling g mk a) (Vm.Alike.refl U.vm) qO⟩
theorem kcls_eq {U : State} {c1 c2 : ClassId} {ty : FieldType} (h1 : va_RA U c1 ty) (h2 : va_RA U c2 ty) : c1 = c2 := by
  cases ty with
  | object C =>
    obtain ⟨-, -, -, -, -, h⟩ := h1
    obtain ⟨-, -, -, -, -, h'⟩ := h2
    exact Option.some.inj (h.symm.trans h')
  | _ =>
    have e1 : U.vm.findClass _ = some c1 := h1
    have e2 : U.vm.findClass _ = some c2 := h2
    exact Option.some.inj (e1.symm.trans e2)
section KMN
variable {l : Launch} {y : MethodName} {ws ws' : List Cond} {rm : Room} {cc : ByteArray} {maxL : Nat} {D : va_G} {cI : Nat → ClassId} {w : va_W} {av : List Value} {sz : Nat}
theorem kM_n {S : Type} {post : S → Prop} {w' : S → va_W} {mc ms : Nat} (hy : plainFor y = true) (hw : ws = Cond.code y cc maxL none :: ws') (hal : (lg_sl av).length ≤ maxL)
    (body : ∀ (p : Program) (e : Env) (s : State) (m : MethodId) (args : Array Value) (below : List Frame) (meth : Method) (c : Code) (A : Nat → Prop) (Q : State → Prop), CallFix p m c cc maxL s args ws y.cls → KK D cI s → GS A s s.heap → va_D A w → (∀ q, s.heap.size ≤ q → A q) → va_AO RX6 s → meth.name = y.name →
      (∀ (u : S) (H : Heap) (locs : List Loc) (ls : Array Slot) (pc : Nat), post u → va_P D vwCl (w' u) H → va_D A (w' u) → va_S A s.heap H locs → decode cc pc = .ok (.return_, 1) → W p l e rm s m args below meth c H locs mc ms Q (F0 m pc ls [])) →
      ∀ ls : Array Slot, va_P D vwCl w s.heap → va_S A s.heap s.heap [] → lv_has ls maxL (lv_args 0 av) → W p l e rm s m args below meth c s.heap [] 0 0 Q (F0 m 0 ls [])) :
    Met l y ws rm (kPn D cI w sz av) (kQn D w post w' sz) mc ms (va_A w sz) := by
  refine k_ofW (cc := cc) (maxL := maxL) (ret := none) hy hw ?_
  intro p e s m args below meth c s₁ B hml hv
  obtain ⟨rfl, hsz, hP, hK, hG, hD0, hO⟩ := hv
  subst hsz
  have hlocks := B.notSynchronized
  have hl := lv_entry av (n := maxL) hal
  rw [lg_entry_eq]
  exact body p e s m av.toArray below meth c _ _ ⟨B.exec, B.bytes, hml, findClass_of_methodNamed B.named, atoms_spec (ws := ws) B.pre⟩ hK hG (hD0.self (sz := s.heap.size)) (fun q h => Or.inr h) hO (name_of_methodNamed B.named B.method).1
    (fun u H locs ls pc hpo hP2 hD2 hS d => W.vret B.exec B.bytes B.returns (fun t ht hW => ⟨⟨u, rfl, hpo, by rw [ht]; exact hP2, hD2⟩, hS.F ht⟩) hS.2.2 d) _ hP va_S.rf hl
end KMN
section KNW
variable {p : Program} {l : Launch} {e : Env} {R : Room} {s : State} {m : MethodId} {args : Array Value} {below : List Frame} {meth : Method} {c : Code} {H : Heap} {locs : List Loc} {cells slots : Nat} {Q : State → Prop}
variable {cc : ByteArray} {pc : Nat} {ls : Array Slot} {rest : List Value} {A : Nat → Prop} {D : va_G} {cI : Nat → ClassId} {ws : va_W} {own : String} {Ts : List Cond}
theorem k_newI (hexec : p.tables.exec = Jvm.exec) (hb : c.code = cc) (harr : (Cond.arrayClass (newarray.typeOf .int)).before args s = true) (hK : KK D cI s) (hP : va_P D vwCl ws H) (hD : va_D A ws) (hS : va_S A s.heap H locs) (hA : ∀ q, s.heap.size ≤ q → A q)
    {n : Int32} {N' : Nat} (hn : ¬ n < 0) (hN : n.toNatClampNeg = N') (hbytes : N' * componentBytes .int ≤ 536870912) (hcells : cells + 1 ≤ R.cells) (hslots : slots + N' ≤ R.slots) (hdg : decode cc pc = .ok (.newarray .int, 2))
    (kk : ∀ (q : Nat) (H1 : Heap), va_P D vwCl (ws ++ [(q, .inl (cI 0, N', .inl kZ))]) H1 → va_D A (ws ++ [(q, .inl (cI 0, N', .inl kZ))]) → va_S A s.heap H1 locs → W p l e R s m args below meth c H1 locs (cells + 1) (slots + N') Q (F0 m (pc + 2) ls (.ref q :: rest))) :
    W p l e R s m args below meth c H locs cells slots Q (F0 m pc ls (.int n :: rest)) := by
  refine va_newa (atype := .int) (ty := .int) (a0 := (N', .inl kZ)) hexec hb harr rfl hK.1 hP hD hS hA (fun cA => rfl) hn hN hbytes hcells hslots hdg (fun q cA H1 hK1 hP1 hD1 hS1 => ?_)
  have e1 : cA = cI 0 := kcls_eq (hK1.2 4 _ rfl).2 (hK.1.2 0 _ rfl).2
  subst e1
  exact kk q H1 hP1 hD1 hS1
theorem k_newZ (hexec : p.tables.exec = Jvm.exec) (hb : c.code = cc) (harr : (Cond.arrayClass (newarray.typeOf .boolean)).before args s = true) (hK : KK D cI s) (hP : va_P D vwCl ws H) (hD : va_D A ws) (hS : va_S A s.heap H locs) (hA : ∀ q, s.heap.size ≤ q → A q)
    {n : Int32} {N' : Nat} (hn : ¬ n < 0) (hN : n.toNatClampNeg = N') (hbytes : N' * componentBytes .boolean ≤ 536870912) (hcells : cells + 1 ≤ R.cells) (hslots : slots + N' ≤ R.slots) (hdg : decode cc pc = .ok (.newarray .boolean, 2))
    (kk : ∀ (q : Nat) (H1 : Heap), va_P D vwCl (ws ++ [(q, .inl (cI 1, N', .inl kZ))]) H1 → va_D A (ws ++ [(q, .inl (cI 1, N', .inl kZ))]) → va_S A s.heap H1 locs → W p l e R s m args below meth c H1 locs (cells + 1) (slots + N') Q (F0 m (pc + 2) ls (.ref q :: rest))) :
    W p l e R s m args below meth c H locs cells slots Q (F0 m pc ls (.int n :: rest)) := by
  refine va_newa (atype := .boolean) (ty := .boolean) (a0 := (N', .inl kZ)) hexec hb harr rfl hK.1 hP hD hS hA (fun cA => rfl) hn hN hbytes hcells hslots hdg (fun q cA H1 hK1 hP1 hD1 hS1 => ?_)
  have e1 : cA = cI 1 := kcls_eq (hK1.2 4 _ rfl).2 (hK.1.2 1 _ rfl).2
  subst e1
  exact kk q H1 hP1 hD1 hS1
theorem k_newQ (hexec : p.tables.exec = Jvm.exec) (hb : c.code = cc) {index : Nat} (hown : s.vm.findClass own = some m.cls) (hclink : (Cond.classLink own index RX6).before args s = true) (hO : va_AO RX6 s) (hK : KK D cI s) (hP : va_P D vwCl ws H) (hD : va_D A ws) (hS : va_S A s.heap H locs) (hA : ∀ q, s.heap.size ≤ q → A q)
    {n : Int32} {N' : Nat} (hn : ¬ n < 0) (hN : n.toNatClampNeg = N') (hbytes : N' * 4 ≤ 536870912) (hcells : cells + 1 ≤ R.cells) (hslots : slots + N' ≤ R.slots) (hdg : decode cc pc = .ok (.anewarray index, 3)) (had : Nat → Nat → Nat)
    (kk : ∀ (q : Nat) (H1 : Heap), va_P D vwCl (ws ++ [(q, .inl (cI 2, N', .inr (.inr (.inr (.inr (rowF 0 had))))))]) H1 → va_D A (ws ++ [(q, .inl (cI 2, N', .inr (.inr (.inr (.inr (rowF 0 had))))))]) → va_S A s.heap H1 locs → W p l e R s m args below meth c H1 locs (cells + 1) (slots + N') Q (F0 m (pc + 3) ls (.ref q :: rest))) :
    W p l e R s m args below meth c H locs cells slots Q (F0 m pc ls (.int n :: rest)) := by
  refine va_newq (C := RX6) hexec hb hown hclink hO hK.1 hP hD hS hA hn hN hbytes hcells hslots hdg (fun q cA H1 hK1 hP1 hD1 hS1 => ?_)
  have e1 : cA = cI 2 := kcls_eq (hK1.2 4 _ rfl).2 (hK.1.2 2 _ rfl).2
  subst e1
  have e2 : (fun _ : Nat => (none : Option Nat)) = rowF 0 had := funext fun j => (if_neg (Nat.not_lt_zero j)).symm
  rw [e2] at hP1 hD1
  exact kk q H1 hP1 hD1 hS1
/-- new, dup, and the constructor's call -/
theorem kn_new {S : Type} {post : Nat → S → Prop} {w' : S → va_W} {mc ms : Nat} {ci N ik ic : Nat} {T : u_T} {C : String} {fs : List Value} {nL mL : Nat} {y : MethodName} {bytes : ByteArray} {wsy : List Cond} {rm : Room}
    (F : CallFix p m c cc nL s args Ts own) (hK : KK D cI s) (hG : GS A s s.heap) (hA : ∀ q, s.heap.size ≤ q → A q) (hO : va_AO RX6 s)
    (hin : ∀ w ∈ u_ws C T N, w ∈ Ts) (ty : Nat → FieldType) (hty : ∀ k, k < N → parseFieldDescriptor (T k).2.2.1 = some (ty k)) (hcl : (Cond.classLink own ik C).before args s = true) (hinst : (Cond.instantiable C N).before args s = true) (hini : (Cond.initialized C).before args s = true)
    (hc : vwCl[ci]? = some (C, T, N)) (hfs : ∀ j, j < N → defaultValue (ty j) = vp_V fs j)
    (hM : ∀ q sz : Nat, Met l y wsy rm (kPn D cI [(q, .inr (ci, fs))] sz [.ref q]) (kQn D [(q, .inr (ci, fs))] (post q) w' sz) mc ms (va_A [(q, .inr (ci, fs))] sz))
    (cw : CallB R s args own ic y bytes mL none wsy rm mc ms 0 ∧ y.name = "<init>" ∧ (Cond.instanceMethod y).before args s = true)
    (hP : va_P D vwCl ws H) (hD : va_D A ws) (hS : va_S A s.heap H locs) (hl : ls.size = nL) (hroom : ((Value.ref 0 :: rest).map fun v => v.category).sum ≤ 8) (hf1 : cells + 1 + mc ≤ R.cells) (hf2 : slots + N + ms ≤ R.slots)
    (d0 : decode cc pc = .ok (.new ik, 3)) (d3 : decode cc (pc + 3) = .ok (.dup, 1)) (d4 : decode cc (pc + 3 + 1) = .ok (.invokespecial ic, 3))
    (kk : ∀ (q : Nat) (u : S) (H1 : Heap) (locs1 : List Loc), post q u → va_P D vwCl (ws ++ w' u) H1 → va_D A (ws ++ w' u) → va_S A s.heap H1 locs1 → W p l e R s m args below meth c H1 locs1 (cells + 1 + mc) (slots + N + ms) Q (F0 m (pc + 3 + 1 + 3) ls (.ref q :: rest))) :
    W p l e R s m args below meth c H locs cells slots Q (F0 m pc ls rest) := by
  obtain ⟨hx, hb, hml, hown, hts⟩ := id F
  refine va_new (ci := ci) (fs := fs) hx hb hts hin ty hty hown hcl hinst hini hK.1 hP hD hS hA hc hfs (by omega) (by omega) d0 (fun q H hP hD hS => ?_)
  refine lv_dup hx hb d3 rfl ?_
  have hPq : va_P D vwCl [(q, .inr (ci, fs))] H := vaP_iff.mpr fun z hz => vaP_iff.mp hP z (List.mem_append_right _ hz)
  have hmem : ∀ x, va_A [(q, (.inr (ci, fs) : va_E))] H.size x → x = q ∨ H.size ≤ x := fun x h => by
    rcases vaA_mem.mp h with z | z
    · exact Or.inl (List.mem_singleton.mp z)
    · exact Or.inr z
  have hAq : A q := (vaD_iff.mp hD).2 (q, .inr (ci, fs)) (List.mem_append_right _ List.mem_cons_self)
  have hF : ∀ x, va_A [(q, (.inr (ci, fs) : va_E))] H.size x → A x := fun x h => by
    rcases hmem x h with z | z
    · rw [z]; exact hAq
    · exact hA x (Nat.le_trans hS.1 z)
  have hDq : va_D (fun _ => True) [(q, (.inr (ci, fs) : va_E))] := vaD_iff.mpr ⟨List.nodup_cons.mpr ⟨List.not_mem_nil, List.nodup_nil⟩, fun _ _ => trivial⟩
  refine va_callv (va_runI (As := []) (rest := .ref q :: rest) F (hM q H.size) cw ⟨kPn_blind, fun U hU hW => ⟨rfl, by rw [hU], by rw [hU]; exact hPq, hK.warm hW, by rw [hU]; exact ((hG.kept (fun a h1 h2 => hS.2.1 a h1 h2)).narrow hF).moved hW.alike, hDq, va_AO.moved hW.alike hO⟩⟩ rfl rfl hl rfl (lv_room hroom) d4 ⟨hf1, hf2⟩) hS (fun x _ h => hF x h) hF (fun u t H1 locs1 ht hvm hpost hB hz hk hS1 => ?_)
  obtain ⟨hP2, hD2⟩ := hB
  rw [ht] at hP2
  have hnd := (vaD_iff.mp hD).1
  rw [List.map_append] at hnd
  obtain ⟨n1, n2, n3⟩ := List.nodup_append.mp hnd
  have hout : ∀ z ∈ ws, z.1 < H.size ∧ z.1 ≠ q := fun z hz => ⟨(vaP_iff.mp hP z (List.mem_append_left _ hz)).lt, n3 z.1 (List.mem_map.mpr ⟨z, hz, rfl⟩) q (List.mem_map.mpr ⟨(q, .inr (ci, fs)), List.mem_cons_self, rfl⟩)⟩
  refine kk q u H1 locs1 hpost ?_ ?_ hS1
  · refine vaP_iff.mpr fun z hz => ?_
    rcases List.mem_append.mp hz with h | h
    · obtain ⟨h1, h2⟩ := hout z h
      refine (vaP_iff.mp hP z (List.mem_append_left _ h)).kept (hk z.1 h1 fun w => ?_)
      rcases hmem z.1 w with w | w
      · exact h2 w
      · omega
    · exact vaP_iff.mp hP2 z h
  · refine vaD_iff.mpr ⟨?_, fun z hz => ?_⟩
    · rw [List.map_append]
      refine List.nodup_append.mpr ⟨n1, (vaD_iff.mp hD2).1, fun a ha b hb2 e => ?_⟩
      obtain ⟨z, hz, rfl⟩ := List.mem_map.mp ha
      obtain ⟨w, hw, rfl⟩ := List.mem_map.mp hb2
      obtain ⟨h1, h2⟩ := hout z hz
      have e2 : z.1 = w.1 := e
      rcases hmem w.1 ((vaD_iff.mp hD2).2 w hw) with h | h
      · exact h2 (e2.trans h)
      · omega
    · rcases List.mem_append.mp hz with h | h
      · exact (vaD_iff.mp hD).2 z (List.mem_append_left _ h)
      · exact hF z.1 ((vaD_iff.mp hD2).2 z h)
end KNW
