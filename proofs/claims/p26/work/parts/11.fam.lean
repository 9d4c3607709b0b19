/-! worlds with states in rows; calls over them; methods that throw, methods that catch -/
/-- what a state holds: stopped, dropped, fouls, told, wentLeft, wentRight, leaning, shift, rolls, frame, taken, start, settings -/
abbrev kSt : Type := Int32 × Int32 × Int32 × Int32 × Int32 × Int32 × kF × kF × Int32 × Int32 × kF × kF × kF
abbrev stW (cI : Nat → ClassId) (a : Nat → Nat) (c : kSt) : va_W := [(a 0, .inr (5, [.ref (a 1), .ref (a 4), .ref (a 7), .int c.1, .int c.2.1, .int c.2.2.1])), (a 1, .inr (2, [.ref (a 2), .ref (a 3), .int c.2.2.2.1, .int c.2.2.2.2.1, .int c.2.2.2.2.2.1])), (a 2, .inl (cI 0, 10, .inl c.2.2.2.2.2.2.1)), (a 3, .inl (cI 0, 10, .inl c.2.2.2.2.2.2.2.1)), (a 4, .inr (3, [.ref (a 5), .ref (a 6), .int c.2.2.2.2.2.2.2.2.1, .int c.2.2.2.2.2.2.2.2.2.1])), (a 5, .inl (cI 0, 21, .inl c.2.2.2.2.2.2.2.2.2.2.1)), (a 6, .inl (cI 0, 11, .inl c.2.2.2.2.2.2.2.2.2.2.2.1)), (a 7, .inl (cI 0, 3, .inl c.2.2.2.2.2.2.2.2.2.2.2.2))]
def famW (cI : Nat → ClassId) (n : Nat) (had : Nat → Nat → Nat) (hs : Nat → kSt) : va_W := (List.range n).flatMap (fun i => stW cI (had i) (hs i))
def famR (cI : Nat → ClassId) (n i : Nat) (had : Nat → Nat → Nat) (hs : Nat → kSt) : va_W := ((List.range n).filter (fun j => decide (j ≠ i))).flatMap (fun j => stW cI (had j) (hs j))
def rowF (n : Nat) (had : Nat → Nat → Nat) : Nat → Option Nat := fun i => if i < n then some (had i 0) else none
def kup (hs : Nat → kSt) (i : Nat) (c : kSt) : Nat → kSt := fun j => if j = i then c else hs j
theorem vaP_iff {D : va_G} {cl : List vw_C} {ws : va_W} {H : Heap} : va_P D cl ws H ↔ ∀ q ∈ ws, va_at D cl q H := by
  constructor
  · intro h q hq
    obtain ⟨k, hk⟩ := List.getElem?_of_mem hq
    exact h k q hk
  · intro h k q hk
    exact h q (List.mem_of_getElem? hk)
theorem vaD_iff {A : Nat → Prop} {ws : va_W} : va_D A ws ↔ (ws.map (·.1)).Nodup ∧ ∀ q ∈ ws, A q.1 := by
  constructor
  · intro h
    refine ⟨?_, fun q hq => ?_⟩
    · rw [List.nodup_iff_pairwise_ne, List.pairwise_iff_getElem]
      intro i j hi hj hij e
      simp only [List.getElem_map] at e
      simp only [List.length_map] at hi hj
      have := h.1 i j _ _ (List.getElem?_eq_getElem hi) (List.getElem?_eq_getElem hj) e
      omega
    · obtain ⟨k, hk⟩ := List.getElem?_of_mem hq
      exact h.2 k q hk
  · intro h
    refine ⟨fun i j p q hi hj e => ?_, fun k q hk => h.2 q (List.mem_of_getElem? hk)⟩
    obtain ⟨hi1, hi2⟩ := List.getElem?_eq_some_iff.mp hi
    obtain ⟨hj1, hj2⟩ := List.getElem?_eq_some_iff.mp hj
    have hn := h.1
    rw [List.nodup_iff_pairwise_ne, List.pairwise_iff_getElem] at hn
    rcases Nat.lt_trichotomy i j with z | z | z
    · exact (hn i j (by simpa using hi1) (by simpa using hj1) z (by rw [List.getElem_map, List.getElem_map, hi2, hj2]; exact e)).elim
    · exact z
    · exact (hn j i (by simpa using hj1) (by simpa using hi1) z (by rw [List.getElem_map, List.getElem_map, hi2, hj2]; exact e.symm)).elim
theorem vaP_perm {D : va_G} {cl : List vw_C} {ws ws' : va_W} {H : Heap} (hp : ws.Perm ws') (h : va_P D cl ws H) : va_P D cl ws' H := vaP_iff.mpr (fun q hq => vaP_iff.mp h q (hp.mem_iff.mpr hq))
theorem vaD_perm {A : Nat → Prop} {ws ws' : va_W} (hp : ws.Perm ws') (h : va_D A ws) : va_D A ws' := vaD_iff.mpr ⟨(hp.map (·.1)).nodup_iff.mp (vaD_iff.mp h).1, fun q hq => (vaD_iff.mp h).2 q (hp.mem_iff.mpr hq)⟩
theorem flat_out {α : Type} (f : Nat → List α) : ∀ (l : List Nat), l.Nodup → ∀ i ∈ l, (l.flatMap f).Perm (f i ++ (l.filter (fun j => decide (j ≠ i))).flatMap f)
  | [], _, i, h => by cases h
  | a :: l, hn, i, h => by
    have hn2 := List.nodup_cons.mp hn
    by_cases ha : a = i
    · subst ha
      have e : (a :: l).filter (fun j => decide (j ≠ a)) = l := by
        rw [List.filter_cons_of_neg (by simp), List.filter_eq_self]
        intro b hb
        simp only [decide_eq_true_eq]
        exact fun z => hn2.1 (z ▸ hb)
      rw [e]
      exact List.Perm.refl _
    · have hi : i ∈ l := by
        rcases List.mem_cons.mp h with z | z
        · exact absurd z.symm ha
        · exact z
      have e : (a :: l).filter (fun j => decide (j ≠ i)) = a :: l.filter (fun j => decide (j ≠ i)) := List.filter_cons_of_pos (by simpa using ha)
      rw [e]
      simp only [List.flatMap_cons]
      refine (List.Perm.append_left (f a) (flat_out f l hn2.2 i hi)).trans ?_
      rw [← List.append_assoc, ← List.append_assoc]
      exact List.Perm.append_right _ List.perm_append_comm
theorem fam_out {cI : Nat → ClassId} {n i : Nat} {had : Nat → Nat → Nat} {hs : Nat → kSt} (pre : va_W) (hi : i < n) : (pre ++ famW cI n had hs).Perm (stW cI (had i) (hs i) ++ (pre ++ famR cI n i had hs)) := by
  have h := flat_out (fun j => stW cI (had j) (hs j)) (List.range n) List.nodup_range i (List.mem_range.mpr hi)
  refine (List.Perm.append_left pre h).trans ?_
  rw [← List.append_assoc, ← List.append_assoc]
  exact List.Perm.append_right _ List.perm_append_comm
theorem famR_up {cI : Nat → ClassId} {n i : Nat} {had : Nat → Nat → Nat} {hs : Nat → kSt} {c : kSt} : famR cI n i had (kup hs i c) = famR cI n i had hs := by
  unfold famR
  rw [List.flatMap_def, List.flatMap_def]
  congr 1
  refine List.map_congr_left (fun j hj => ?_)
  have h := (List.mem_filter.mp hj).2
  simp only [decide_eq_true_eq] at h
  simp only [kup, if_neg h]
theorem fam_in {cI : Nat → ClassId} {n i : Nat} {had : Nat → Nat → Nat} {hs : Nat → kSt} {c : kSt} (pre : va_W) (hi : i < n) : (stW cI (had i) c ++ (pre ++ famR cI n i had hs)).Perm (pre ++ famW cI n had (kup hs i c)) := by
  have h := fam_out (cI := cI) (n := n) (i := i) (had := had) (hs := kup hs i c) pre hi
  rw [famR_up] at h
  have e : kup hs i c i = c := if_pos rfl
  rw [e] at h
  exact h.symm
theorem famW_fst {cI : Nat → ClassId} {n : Nat} {had : Nat → Nat → Nat} {hs hs' : Nat → kSt} : (famW cI n had hs').map (·.1) = (famW cI n had hs).map (·.1) := by
  simp only [famW, List.map_flatMap]
  rfl
/-- a callee's world wc in the caller's ws; behind the call wc' and ws' -/
def kSub (ws wc wc' ws' : va_W) : Prop := (∀ q ∈ wc, q ∈ ws) ∧ ((ws.map (·.1)).Nodup → (wc.map (·.1)).Nodup) ∧ ws'.map (·.1) = ws.map (·.1) ∧ ∀ q ∈ ws', q ∈ wc' ∨ (q ∈ ws ∧ ((ws.map (·.1)).Nodup → q.1 ∉ wc.map (·.1)))
theorem vaA_mem {ws : va_W} {sz q : Nat} : va_A ws sz q ↔ q ∈ ws.map (·.1) ∨ sz ≤ q := by
  constructor
  · rintro (⟨k, e, h⟩ | h)
    · exact Or.inl (List.mem_map.mpr ⟨(q, e), List.mem_of_getElem? h, rfl⟩)
    · exact Or.inr h
  · rintro (h | h)
    · obtain ⟨⟨a, e⟩, h1, h2⟩ := List.mem_map.mp h
      obtain ⟨k, hk⟩ := List.getElem?_of_mem h1
      exact Or.inl ⟨k, e, by rw [hk]; simp only at h2; rw [h2]⟩
    · exact Or.inr h
theorem kjoinS {A : Nat → Prop} {D : va_G} {ws wc wc' ws' : va_W} {H H1 : Heap} (hsub : kSub ws wc wc' ws') (hP : va_P D vwCl ws H) (hD : va_D A ws) (hk : ∀ q : Nat, q < H.size → ¬ va_A wc H.size q → H1[q]? = H[q]?) (hP1 : va_P D vwCl wc' H1) : va_P D vwCl ws' H1 ∧ va_D A ws' := by
  obtain ⟨h1, h2, h3, h4⟩ := hsub
  have hnd := (vaD_iff.mp hD).1
  refine ⟨vaP_iff.mpr fun q hq => ?_, kD_same h3 hD⟩
  rcases h4 q hq with h | ⟨h, h5⟩
  · exact vaP_iff.mp hP1 q h
  · have hat := vaP_iff.mp hP q h
    have hlt := hat.lt
    refine hat.kept (hk q.1 hlt (fun z => ?_))
    rcases vaA_mem.mp z with z | z
    · exact h5 hnd z
    · omega
theorem kfreeS {A : Nat → Prop} {ws wc wc' ws' : va_W} {H0 H : Heap} {locs : List Loc} (hsub : kSub ws wc wc' ws') (hD : va_D A ws) (hS : va_S A H0 H locs) (hA : ∀ q, H0.size ≤ q → A q) : ∀ q, va_A wc H.size q → A q := by
  intro q h
  rcases vaA_mem.mp h with h | h
  · obtain ⟨x, h1, h2⟩ := List.mem_map.mp h
    rw [← h2]
    exact (vaD_iff.mp hD).2 x (hsub.1 x h1)
  · exact hA q (Nat.le_trans hS.1 h)
theorem kset_fst {ws wc wc' : va_W} (is : List Nat) (hn : va_nd is = true) (hC : is.map (fun i => ws[i]?) = wc.map some) (hw : wc'.map (·.1) = wc.map (·.1)) : (kset ws is wc').map (·.1) = ws.map (·.1) := by
  have hlen : is.length = wc'.length := by
    have h1 := congrArg List.length hC
    have h2 := congrArg List.length hw
    simp only [List.length_map] at h1 h2
    omega
  have hl : ∀ (is : List Nat) (cs ws : va_W), (kset ws is cs).length = ws.length := by
    intro is
    induction is with
    | nil => intro cs ws; cases cs <;> rfl
    | cons i is ih =>
      intro cs ws
      cases cs with
      | nil => rfl
      | cons c cs => show (kset (ws.set i c) is cs).length = _; rw [ih, List.length_set]
  refine List.ext_getElem? fun k => ?_
  rw [List.getElem?_map, List.getElem?_map]
  by_cases hk : k < ws.length
  · have hk2 : k < (kset ws is wc').length := by rw [hl]; exact hk
    rw [List.getElem?_eq_getElem hk, List.getElem?_eq_getElem hk2]
    simp only [Option.map_some, Option.some.injEq]
    rcases kset_get is wc' ws hn hlen k _ (List.getElem?_eq_getElem hk2) with ⟨j, h1, h2⟩ | ⟨h1, h2⟩
    · obtain ⟨q0, h3, h4⟩ := ksame hw h2
      obtain ⟨q1, h5, h6⟩ := kat hC h1
      cases h3.symm.trans h5
      rw [List.getElem?_eq_getElem hk] at h6
      cases h6
      exact h4.symm
    · rw [List.getElem?_eq_getElem hk] at h2
      exact (congrArg Prod.fst (Option.some.inj h2)).symm
  · have hk2 : ¬ k < (kset ws is wc').length := by rw [hl]; exact hk
    rw [List.getElem?_eq_none (by omega), List.getElem?_eq_none (by omega)]
theorem kSubT {pre prec prec' T T' U1 U2 : va_W} (is : List Nat) (hn : va_nd is = true) (hC : is.map (fun i => pre[i]?) = prec.map some) (hw : prec'.map (·.1) = prec.map (·.1)) (hT : T'.map (·.1) = T.map (·.1)) :
    kSub (pre ++ (U1 ++ (T ++ U2))) (prec ++ T) (prec' ++ T') (kset pre is prec' ++ (U1 ++ (T' ++ U2))) := by
  have hlen : is.length = prec'.length := by
    have h1 := congrArg List.length hC
    have h2 := congrArg List.length hw
    simp only [List.length_map] at h1 h2
    omega
  have hin : ∀ q ∈ prec, q ∈ pre := fun q hq => by
    obtain ⟨j, hj⟩ := List.getElem?_of_mem hq
    obtain ⟨i, -, h2⟩ := kat2 hC hj
    exact List.mem_of_getElem? h2
  refine ⟨fun q hq => ?_, fun hnd => ?_, ?_, fun q hq => ?_⟩
  · rcases List.mem_append.mp hq with h | h
    · exact List.mem_append_left _ (hin q h)
    · exact List.mem_append_right _ (List.mem_append_right _ (List.mem_append_left _ h))
  · simp only [List.map_append] at hnd ⊢
    obtain ⟨n1, n2, n3⟩ := List.nodup_append.mp hnd
    obtain ⟨n4, n5, n6⟩ := List.nodup_append.mp n2
    obtain ⟨n7, n8, n9⟩ := List.nodup_append.mp n5
    have hDp : va_D (fun _ => True) pre := vaD_iff.mpr ⟨n1, fun _ _ => trivial⟩
    have hDc : va_D (fun _ => True) prec := hDp.sub is hn hC
    refine List.nodup_append.mpr ⟨(vaD_iff.mp hDc).1, n7, fun a ha b hb => ?_⟩
    obtain ⟨x, hx1, hx2⟩ := List.mem_map.mp ha
    exact n3 a (List.mem_map.mpr ⟨x, hin x hx1, hx2⟩) b (List.mem_append_right _ (List.mem_append_left _ hb))
  · simp only [List.map_append]
    rw [kset_fst is hn hC hw, hT]
  · rcases List.mem_append.mp hq with h | h
    · obtain ⟨k, hk⟩ := List.getElem?_of_mem h
      rcases kset_get is prec' pre hn hlen k q hk with ⟨j, h1, h2⟩ | ⟨h1, h2⟩
      · exact Or.inl (List.mem_append_left _ (List.mem_of_getElem? h2))
      · refine Or.inr ⟨List.mem_append_left _ (List.mem_of_getElem? h2), fun hnd z => ?_⟩
        simp only [List.map_append] at hnd z
        obtain ⟨n1, n2, n3⟩ := List.nodup_append.mp hnd
        rcases List.mem_append.mp z with z | z
        · obtain ⟨x, hx1, hx2⟩ := List.mem_map.mp z
          obtain ⟨j, hj⟩ := List.getElem?_of_mem hx1
          obtain ⟨i, h5, h6⟩ := kat2 hC hj
          have hDp : va_D (fun _ => True) pre := vaD_iff.mpr ⟨n1, fun _ _ => trivial⟩
          have e := hDp.1 k i q x h2 h6 hx2.symm
          subst e
          exact h1 (List.mem_of_getElem? h5)
        · exact n3 q.1 (List.mem_map.mpr ⟨q, List.mem_of_getElem? h2, rfl⟩) q.1 (List.mem_append_right _ (List.mem_append_left _ z)) rfl
    · have hU : ∀ {q : Nat × va_E}, (q ∈ U1 ∨ q ∈ U2) → q ∈ pre ++ (U1 ++ (T ++ U2)) ∧ (((pre ++ (U1 ++ (T ++ U2))).map (·.1)).Nodup → q.1 ∉ (prec ++ T).map (·.1)) := by
        intro q hq
        refine ⟨?_, fun hnd z => ?_⟩
        · rcases hq with h | h
          · exact List.mem_append_right _ (List.mem_append_left _ h)
          · exact List.mem_append_right _ (List.mem_append_right _ (List.mem_append_right _ h))
        · simp only [List.map_append] at hnd z
          obtain ⟨n1, n2, n3⟩ := List.nodup_append.mp hnd
          obtain ⟨n4, n5, n6⟩ := List.nodup_append.mp n2
          obtain ⟨n7, n8, n9⟩ := List.nodup_append.mp n5
          rcases List.mem_append.mp z with z | z
          · obtain ⟨x, hx1, hx2⟩ := List.mem_map.mp z
            have hz : q.1 ∈ pre.map (·.1) := List.mem_map.mpr ⟨x, hin x hx1, hx2⟩
            rcases hq with h | h
            · exact n3 q.1 hz q.1 (List.mem_append_left _ (List.mem_map.mpr ⟨q, h, rfl⟩)) rfl
            · exact n3 q.1 hz q.1 (List.mem_append_right _ (List.mem_append_right _ (List.mem_map.mpr ⟨q, h, rfl⟩))) rfl
          · rcases hq with h | h
            · exact n6 q.1 (List.mem_map.mpr ⟨q, h, rfl⟩) q.1 (List.mem_append_left _ z) rfl
            · exact n9 q.1 z q.1 (List.mem_map.mpr ⟨q, h, rfl⟩) rfl
      rcases List.mem_append.mp h with h | h
      · exact Or.inr (hU (Or.inl h))
      · rcases List.mem_append.mp h with h | h
        · exact Or.inl (List.mem_append_right _ h)
        · exact Or.inr (hU (Or.inr h))
theorem kSubT0 {pre prec prec' T T' : va_W} (is : List Nat) (hn : va_nd is = true) (hC : is.map (fun i => pre[i]?) = prec.map some) (hw : prec'.map (·.1) = prec.map (·.1)) (hT : T'.map (·.1) = T.map (·.1)) :
    kSub (pre ++ T) (prec ++ T) (prec' ++ T') (kset pre is prec' ++ T') := by
  have h := kSubT (U1 := []) (U2 := []) is hn hC hw hT
  simpa only [List.nil_append, List.append_nil] using h
theorem kSubTl {pre prec prec' T T' U : va_W} (is : List Nat) (hn : va_nd is = true) (hC : is.map (fun i => pre[i]?) = prec.map some) (hw : prec'.map (·.1) = prec.map (·.1)) (hT : T'.map (·.1) = T.map (·.1)) :
    kSub (pre ++ (T ++ U)) (prec ++ T) (prec' ++ T') (kset pre is prec' ++ (T' ++ U)) := by
  have h := kSubT (U1 := []) (U2 := U) is hn hC hw hT
  simpa only [List.nil_append, List.append_nil] using h
theorem kSubTr {pre prec prec' T T' U : va_W} (is : List Nat) (hn : va_nd is = true) (hC : is.map (fun i => pre[i]?) = prec.map some) (hw : prec'.map (·.1) = prec.map (·.1)) (hT : T'.map (·.1) = T.map (·.1)) :
    kSub (pre ++ (U ++ T)) (prec ++ T) (prec' ++ T') (kset pre is prec' ++ (U ++ T')) := by
  have h := kSubT (U1 := U) (U2 := []) is hn hC hw hT
  simpa only [List.nil_append, List.append_nil] using h
/-- places alone -/
theorem kSub0 {ws wc wc' : va_W} (is : List Nat) (hn : va_nd is = true) (hC : is.map (fun i => ws[i]?) = wc.map some) (hw : wc'.map (·.1) = wc.map (·.1)) : kSub ws wc wc' (kset ws is wc') := by
  have h := kSubT (U1 := []) (U2 := []) (T := []) (T' := []) is hn hC hw rfl
  simpa only [List.nil_append, List.append_nil] using h
