/-! the law's cases, walked (written by wip/whole/gen/gen_law.py) -/
abbrev lawP (cI : Nat → ClassId) (a am : Nat → Nat) (ao : Nat) (hadH hadL : Nat → Nat → Nat) (n t : kSt) (sg : kF) (len : Int32) (hsz : Int32) (hnx : Int32) (lk : kF) (out : Nat → Int64) (mref : Int32) (msize : Int32) (macts : Int32) (mspot : Int32) (mout : Int32) (mtext : kF) (mnow : kF) (mtrial : kF) (mdiary : kF) (mkept : kF) (misk : kF) (mside : kF) (mwas : kF) : va_W := [((a 0), .inr (6, [.ref (a 1), .ref (a 3), .ref (a 11), .ref (a 19), .ref (a 21)])), ((a 1), .inr (0, [.ref (a 2), .int len])), ((a 2), .inl (cI 0, 120, .inl sg)), ((a 3), .inr (5, [.ref (a 4), .ref (a 7), .ref (a 10), .int n.1, .int n.2.1, .int n.2.2.1])), ((a 4), .inr (2, [.ref (a 5), .ref (a 6), .int n.2.2.2.1, .int n.2.2.2.2.1, .int n.2.2.2.2.2.1])), ((a 5), .inl (cI 0, 10, .inl n.2.2.2.2.2.2.1)), ((a 6), .inl (cI 0, 10, .inl n.2.2.2.2.2.2.2.1)), ((a 7), .inr (3, [.ref (a 8), .ref (a 9), .int n.2.2.2.2.2.2.2.2.1, .int n.2.2.2.2.2.2.2.2.2.1])), ((a 8), .inl (cI 0, 21, .inl n.2.2.2.2.2.2.2.2.2.2.1)), ((a 9), .inl (cI 0, 11, .inl n.2.2.2.2.2.2.2.2.2.2.2.1)), ((a 10), .inl (cI 0, 3, .inl n.2.2.2.2.2.2.2.2.2.2.2.2)), ((a 11), .inr (5, [.ref (a 12), .ref (a 15), .ref (a 18), .int t.1, .int t.2.1, .int t.2.2.1])), ((a 12), .inr (2, [.ref (a 13), .ref (a 14), .int t.2.2.2.1, .int t.2.2.2.2.1, .int t.2.2.2.2.2.1])), ((a 13), .inl (cI 0, 10, .inl t.2.2.2.2.2.2.1)), ((a 14), .inl (cI 0, 10, .inl t.2.2.2.2.2.2.2.1)), ((a 15), .inr (3, [.ref (a 16), .ref (a 17), .int t.2.2.2.2.2.2.2.2.1, .int t.2.2.2.2.2.2.2.2.2.1])), ((a 16), .inl (cI 0, 21, .inl t.2.2.2.2.2.2.2.2.2.2.1)), ((a 17), .inl (cI 0, 11, .inl t.2.2.2.2.2.2.2.2.2.2.2.1)), ((a 18), .inl (cI 0, 3, .inl t.2.2.2.2.2.2.2.2.2.2.2.2)), ((a 19), .inr (1, [.ref (a 20), .int hsz, .int hnx])), ((a 20), .inl (cI 2, 14, .inr (.inr (.inr (.inr (rowF 14 hadH)))))), ((a 21), .inr (4, [.ref (a 22), .ref (a 23)])), ((a 22), .inl (cI 2, 2, .inr (.inr (.inr (.inr (rowF 2 hadL)))))), ((a 23), .inl (cI 1, 2, .inl lk)), ((am 0), .inr (7, [.int mref, .ref (am 1), .int msize, .ref (am 2), .ref (am 3), .ref (am 4), .int macts, .ref (am 5), .ref (am 6), .ref (am 7), .ref (am 8), .int mspot, .int mout])), ((am 1), .inl (cI 0, 120, .inl mtext)), ((am 2), .inl (cI 0, 79, .inl mnow)), ((am 3), .inl (cI 0, 79, .inl mtrial)), ((am 4), .inl (cI 0, 1106, .inl mdiary)), ((am 5), .inl (cI 0, 158, .inl mkept)), ((am 6), .inl (cI 1, 2, .inl misk)), ((am 7), .inl (cI 0, 10, .inl mside)), ((am 8), .inl (cI 0, 30, .inl mwas)), (ao, .inl (cI 3, 1, .inr (.inl out)))]
abbrev lawL (a am : Nat → Nat) (ao b i : Nat) : List (Nat × Value) := [(0, .ref b), (1, .ref (a 0)), (2, .ref (am 0)), (3, .ref ao), (4, .int (nI i))]
def LC (p : Program) (l : Launch) (s : State) (m : MethodId) (args : Array Value) (c : Code) (D : va_G) (cI : Nat → ClassId) (A : Nat → Prop) (b L : Nat) (xs : Nat → Int32) : Prop := CallFix p m c cL_law 7 s args wsL_law RL ∧ KK D cI s ∧ GS A s s.heap ∧ (∀ q, s.heap.size ≤ q → A q) ∧ va_X b L xs s s.heap ∧ b < s.heap.size ∧ ¬ A b ∧ l.stackTraces = false ∧ L ≤ 2560
theorem kset_eq {ws ws' wc wc' : va_W} {n : Nat} (is js : List Nat) (hn : va_nd is = true) (hC : is.map (fun i => ws[i]?) = wc.map some) (hw : wc'.map (·.1) = wc.map (·.1)) (hC' : is.map (fun i => ws'[i]?) = wc'.map some) (hR : js.map (fun j => ws'[j]?) = js.map (fun j => ws[j]?)) (hl : ws.length = n) (hl' : ws'.length = n) (hcov : (List.range n).all (fun k => decide (k ∈ is) || decide (k ∈ js)) = true) : kset ws is wc' = ws' := by
  have hlen : is.length = wc'.length := by
    have h1 := congrArg List.length hC
    have h2 := congrArg List.length hw
    simp only [List.length_map] at h1 h2
    omega
  have hk0 : (kset ws is wc').length = ws.length := by
    have h1 := congrArg List.length (kset_fst is hn hC hw)
    simpa only [List.length_map] using h1
  refine List.ext_getElem? fun k => ?_
  by_cases hk : k < n
  · have hk2 : k < (kset ws is wc').length := by omega
    rw [List.getElem?_eq_getElem hk2]
    rcases kset_get is wc' ws hn hlen k _ (List.getElem?_eq_getElem hk2) with ⟨j, h1, h2⟩ | ⟨h1, h2⟩
    · obtain ⟨q, h3, h4⟩ := kat hC' h1
      rw [h4, ← h3, h2]
    · have h3 := List.all_eq_true.mp hcov k (List.mem_range.mpr hk)
      simp only [Bool.or_eq_true, decide_eq_true_eq] at h3
      rcases h3 with h3 | h3
      · exact absurd h3 h1
      · have h4 : ws'[k]? = ws[k]? := List.map_inj_left.mp hR k h3
        rw [h4, h2]
  · rw [List.getElem?_eq_none (by omega), List.getElem?_eq_none (by omega)]
theorem kSubF {pre pre' prec prec' rest F : va_W} {n : Nat} (is js : List Nat) (hn : va_nd is = true) (hC : is.map (fun i => pre[i]?) = prec.map some) (hw : prec'.map (·.1) = prec.map (·.1)) (hC' : is.map (fun i => pre'[i]?) = prec'.map some) (hR0 : js.map (fun j => pre[j]?) = rest.map some) (hR : js.map (fun j => pre'[j]?) = rest.map some) (hl : pre.length = n) (hl' : pre'.length = n) (hcov : (List.range n).all (fun k => decide (k ∈ is) || decide (k ∈ js)) = true) : kSub (pre ++ F) prec prec' (pre' ++ F) := by
  have h := kSubT (U1 := F) (U2 := []) (T := []) (T' := []) is hn hC hw rfl
  rw [kset_eq is js hn hC hw hC' (hR.trans hR0.symm) hl hl' hcov] at h
  simpa only [List.nil_append, List.append_nil] using h
section KSL
variable {p : Program} {l : Launch} {e : Env} {R : Room} {s : State} {m : MethodId} {args : Array Value} {below : List Frame} {meth : Method} {c : Code} {H : Heap} {locs : List Loc} {cells slots : Nat} {Q : State → Prop} {cc : ByteArray} {pc : Nat} {ls : Array Slot} {rest : List Value} {A : Nat → Prop}
theorem k_sld (hexec : p.tables.exec = Jvm.exec) (hb : c.code = cc) {b L : Nat} {xs : Nat → Int32} (hX : va_X b L xs s s.heap) (hbl : b < s.heap.size) (hbA : ¬ A b) (hS : va_S A s.heap H locs) {x : Int32} {j : Nat} (hxj : x = nI j) (hj : j < L) (hL : L < 2 ^ 31) (hdg : decode cc pc = .ok (.iaload, 1))
    (kk : W p l e R s m args below meth c H locs cells slots Q (F0 m (pc + 1) ls (.int (xs j) :: rest))) : W p l e R s m args below meth c H locs cells slots Q (F0 m pc ls (.int x :: .ref b :: rest)) := by
  subst hxj
  refine va_sld hexec hb hX hbl hbA hS (nI_in hj hL) hdg ?_
  rw [nI_clamp (Nat.lt_trans hj hL)]
  exact kk
end KSL
