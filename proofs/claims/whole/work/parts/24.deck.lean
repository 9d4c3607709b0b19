/-! Script, History, Slots, PinDeck: what makes no object and throws nothing -/
def fn_X3_unitOf_33 (k0 : Int64) : Option (Int64) :=
  some (k0)
def fn_X3_unitOf (x0 : Int32) : Option (Int64) :=
  if 0 < x0 then if x0 = (1 : Int32) then fn_X3_unitOf_33 (100000 : Int64) else if x0 = (2 : Int32) then fn_X3_unitOf_33 (10000000000 : Int64) else fn_X3_unitOf_33 (1000000000000000 : Int64) else fn_X3_unitOf_33 (1 : Int64)
set_option maxHeartbeats 4000000 in
set_option maxRecDepth 100000 in
theorem mk_X3_unitOf (l : Launch) (D : va_G) (cI : Nat → ClassId) (sz : Nat) (x0 : Int32) (o : Int64) (hq : fn_X3_unitOf x0 = some o) : Met l yX3_unitOf wsX3_unitOf ({ frames := 0, cells := 0, slots := 0, locals := 0 }) (kPc D cI [] sz [.int x0]) (kQl D [] [] sz o) 0 0 (va_A [] sz) := by
  refine kM_l (cc := cX3_unitOf) (maxL := 1) (by decide +kernel) rfl (Nat.le_of_ble_eq_true rfl) ?_
  intro p e s m args below meth c A Q hF hK hG hD hA hend ls hP hS hl
  obtain ⟨hx, hb, hml, hown, hts⟩ := id hF
  have hl : lv_has ls 1 [(0, .int x0)] := hl
  have b_33 : ∀ (H : Heap) (locs : List Loc) (ls : Array Slot) (k0 : Int64), fn_X3_unitOf_33 k0 = some o → va_P D vwCl [] H → va_S A s.heap H locs → lv_has ls 1 [] → W p l e { frames := 0, cells := 0, slots := 0, locals := 0 } s m args below meth c H locs 0 0 Q (F0 m 33 ls [.long k0]) := by
    intro H locs ls k0
    intro hq hP hS hl
    have ho := Option.some.inj hq
    subst ho
    exact hend _ _ _ _ hP hS dX3_unitOf_33
  refine lv_iload_n hx hb dX3_unitOf_0 rfl (lv_at hl 0 rfl) ?_
  refine lv_if_gt (tgt := 8) hx hb dX3_unitOf_1 (by decide) (fun c9 => ?_) (fun c9 => ?_)
  · have hq := kite_t c9 hq
    refine lv_iload_n hx hb dX3_unitOf_8 rfl (lv_at hl 0 rfl) ?_
    refine lv_iconst (v := 1) hx hb dX3_unitOf_9 (by decide) ?_
    refine lv_icmp_ne (tgt := 19) hx hb dX3_unitOf_10 (by decide) (fun c9 => ?_) (fun c9 => ?_)
    · have hq := kite_f c9 hq
      refine lv_iload_n hx hb dX3_unitOf_19 rfl (lv_at hl 0 rfl) ?_
      refine lv_iconst (v := 2) hx hb dX3_unitOf_20 (by decide) ?_
      refine lv_icmp_ne (tgt := 30) hx hb dX3_unitOf_21 (by decide) (fun c9 => ?_) (fun c9 => ?_)
      · have hq := kite_f c9 hq
        refine lv_ldc2 (v := 1000000000000000) hx hb hown (hts (.constantLong RX3 15 (1000000000000000 : Int64)) (by decide +kernel)) dX3_unitOf_30 ?_
        exact b_33  _ _ _ (1000000000000000 : Int64) hq hP hS (lv_sub hl [] rfl)
      · have hq := kite_t c9 hq
        refine lv_ldc2 (v := 10000000000) hx hb hown (hts (.constantLong RX3 13 (10000000000 : Int64)) (by decide +kernel)) dX3_unitOf_24 ?_
        refine lv_goto (tgt := 33) hx hb dX3_unitOf_27 (by decide) ?_
        exact b_33  _ _ _ (10000000000 : Int64) hq hP hS (lv_sub hl [] rfl)
    · have hq := kite_t c9 hq
      refine lv_ldc2 (v := 100000) hx hb hown (hts (.constantLong RX3 11 (100000 : Int64)) (by decide +kernel)) dX3_unitOf_13 ?_
      refine lv_goto (tgt := 33) hx hb dX3_unitOf_16 (by decide) ?_
      exact b_33  _ _ _ (100000 : Int64) hq hP hS (lv_sub hl [] rfl)
  · have hq := kite_f c9 hq
    refine lv_lconst (v := 1) hx hb dX3_unitOf_4 (by decide) ?_
    refine lv_goto (tgt := 33) hx hb dX3_unitOf_5 (by decide) ?_
    exact b_33  _ _ _ (1 : Int64) hq hP hS (lv_sub hl [] rfl)

def fn_X3_begins (ztold : Int32) (zle : kF) (zsh : kF) (zrolls : Int32) (zfrm : Int32) (ztk : kF) (zsr : kF) : Option (Int32 × Int32 × kF × kF × Int32 × Int32) :=
  (fn_X6_beginGame ztold zle zsh zrolls zfrm ztk zsr).bind fun o1 => some ((1 : Int32), o1.2.1, o1.2.2.1, o1.2.2.2.1, o1.2.2.2.2.1, o1.2.2.2.2.2)
set_option maxHeartbeats 4000000 in
set_option maxRecDepth 100000 in
theorem mk_X3_begins (l : Launch) (D : va_G) (cI : Nat → ClassId) (azT azP azS azSe azLe azSh azTk azSr : Nat) (sz : Nat) (zsto : Int32) (zdro : Int32) (zfou : Int32) (ztold : Int32) (zwl : Int32) (zwr : Int32) (zle : kF) (zsh : kF) (zrolls : Int32) (zfrm : Int32) (ztk : kF) (zsr : kF) (o : Int32 × Int32 × kF × kF × Int32 × Int32) (hq : fn_X3_begins ztold zle zsh zrolls zfrm ztk zsr = some o) : Met l yX3_begins wsX3_begins ({ frames := 5, cells := 0, slots := 0, locals := 109 }) (kPc D cI [(azT, .inr (5, [.ref azP, .ref azS, .ref azSe, .int zsto, .int zdro, .int zfou])), (azP, .inr (2, [.ref azLe, .ref azSh, .int ztold, .int zwl, .int zwr])), (azLe, .inl (cI 0, 10, .inl zle)), (azSh, .inl (cI 0, 10, .inl zsh)), (azS, .inr (3, [.ref azTk, .ref azSr, .int zrolls, .int zfrm])), (azTk, .inl (cI 0, 21, .inl ztk)), (azSr, .inl (cI 0, 11, .inl zsr))] sz [.ref azT]) (kQi D [(azT, .inr (5, [.ref azP, .ref azS, .ref azSe, .int zsto, .int zdro, .int zfou])), (azP, .inr (2, [.ref azLe, .ref azSh, .int ztold, .int zwl, .int zwr])), (azLe, .inl (cI 0, 10, .inl zle)), (azSh, .inl (cI 0, 10, .inl zsh)), (azS, .inr (3, [.ref azTk, .ref azSr, .int zrolls, .int zfrm])), (azTk, .inl (cI 0, 21, .inl ztk)), (azSr, .inl (cI 0, 11, .inl zsr))] [(azT, .inr (5, [.ref azP, .ref azS, .ref azSe, .int zsto, .int zdro, .int zfou])), (azP, .inr (2, [.ref azLe, .ref azSh, .int o.2.1, .int zwl, .int zwr])), (azLe, .inl (cI 0, 10, .inl o.2.2.1)), (azSh, .inl (cI 0, 10, .inl o.2.2.2.1)), (azS, .inr (3, [.ref azTk, .ref azSr, .int o.2.2.2.2.1, .int o.2.2.2.2.2])), (azTk, .inl (cI 0, 21, .inl ztk)), (azSr, .inl (cI 0, 11, .inl zsr))] sz o.1) 0 0 (va_A [(azT, .inr (5, [.ref azP, .ref azS, .ref azSe, .int zsto, .int zdro, .int zfou])), (azP, .inr (2, [.ref azLe, .ref azSh, .int ztold, .int zwl, .int zwr])), (azLe, .inl (cI 0, 10, .inl zle)), (azSh, .inl (cI 0, 10, .inl zsh)), (azS, .inr (3, [.ref azTk, .ref azSr, .int zrolls, .int zfrm])), (azTk, .inl (cI 0, 21, .inl ztk)), (azSr, .inl (cI 0, 11, .inl zsr))] sz) := by
  refine kM_z (cc := cX3_begins) (maxL := 1) (by decide +kernel) rfl (Nat.le_of_ble_eq_true rfl) ?_
  intro p e s m args below meth c A Q hF hK hG hD hA hend ls hP hS hl
  obtain ⟨hx, hb, hml, hown, hts⟩ := id hF
  have hl : lv_has ls 1 [(0, .ref azT)] := hl
  refine lv_aload_n hx hb dX3_begins_0 rfl (lv_at hl 0 rfl) ?_
  obtain ⟨o1, ho1, hq⟩ := kbind hq
  refine kc_Vi (av := []) (rest := []) hF hK hG hA (mk_X6_beginGame l D cI azT azP azS azSe azLe azSh azTk azSr s.heap.size zsto zdro zfou ztold zwl zwr zle zsh zrolls zfrm ztk zsr o1 ho1) (cwV 0 hts gX3_begins_X6_beginGame rfl rfl rfl (by decide +kernel) ⟨Nat.le_of_ble_eq_true rfl, Nat.le_of_ble_eq_true rfl⟩) hP hD hS [0, 1, 2, 3, 4, 5, 6] (by decide) rfl rfl 0 rfl rfl rfl hl.1 rfl (Nat.le_of_ble_eq_true rfl) ⟨Nat.zero_le _, Nat.zero_le _⟩ dX3_begins_1 (fun H locs hP hD hS => ?_)
  have hP : va_P D vwCl [(azT, .inr (5, [.ref azP, .ref azS, .ref azSe, .int zsto, .int zdro, .int zfou])), (azP, .inr (2, [.ref azLe, .ref azSh, .int o1.2.1, .int zwl, .int zwr])), (azLe, .inl (cI 0, 10, .inl o1.2.2.1)), (azSh, .inl (cI 0, 10, .inl o1.2.2.2.1)), (azS, .inr (3, [.ref azTk, .ref azSr, .int o1.2.2.2.2.1, .int o1.2.2.2.2.2])), (azTk, .inl (cI 0, 21, .inl ztk)), (azSr, .inl (cI 0, 11, .inl zsr))] H := hP
  have hD : va_D A [(azT, .inr (5, [.ref azP, .ref azS, .ref azSe, .int zsto, .int zdro, .int zfou])), (azP, .inr (2, [.ref azLe, .ref azSh, .int o1.2.1, .int zwl, .int zwr])), (azLe, .inl (cI 0, 10, .inl o1.2.2.1)), (azSh, .inl (cI 0, 10, .inl o1.2.2.2.1)), (azS, .inr (3, [.ref azTk, .ref azSr, .int o1.2.2.2.2.1, .int o1.2.2.2.2.2])), (azTk, .inl (cI 0, 21, .inl ztk)), (azSr, .inl (cI 0, 11, .inl zsr))] := hD
  refine lv_pop hx hb dX3_begins_4 rfl ?_
  refine lv_iconst (v := 1) hx hb dX3_begins_5 (by decide) ?_
  have ho := Option.some.inj hq
  subst ho
  exact hend _ _ _ _ (Or.inr rfl) hP hS dX3_begins_6

def fn_X3_succeeds_118 (zsto : Int32) (zdro : Int32) (zfou : Int32) (ztold : Int32) (zwl : Int32) (zwr : Int32) (zle : kF) (zsh : kF) (zrolls : Int32) (zfrm : Int32) (ztk : kF) (zsr : kF) (zse : kF) (k0 : Int32) : Option (Int32 × Int32 × Int32 × Int32 × Int32 × Int32 × Int32 × kF × kF × Int32 × Int32 × kF × kF × kF) :=
  if k0 = 0 ∨ k0 = 1 then some (k0, zsto, zdro, zfou, ztold, zwl, zwr, zle, zsh, zrolls, zfrm, ztk, zsr, zse) else none
def fn_X3_succeeds_117 (zsto : Int32) (zdro : Int32) (zfou : Int32) (ztold : Int32) (zwl : Int32) (zwr : Int32) (zle : kF) (zsh : kF) (zrolls : Int32) (zfrm : Int32) (ztk : kF) (zsr : kF) (zse : kF) : Option (Int32 × Int32 × Int32 × Int32 × Int32 × Int32 × Int32 × kF × kF × Int32 × Int32 × kF × kF × kF) :=
  fn_X3_succeeds_118 zsto zdro zfou ztold zwl zwr zle zsh zrolls zfrm ztk zsr zse (0 : Int32)
def fn_X3_succeeds_149 (zsto : Int32) (zdro : Int32) (zfou : Int32) (ztold : Int32) (zwl : Int32) (zwr : Int32) (zle : kF) (zsh : kF) (zrolls : Int32) (zfrm : Int32) (ztk : kF) (zsr : kF) (zse : kF) (k0 : Int32) : Option (Int32 × Int32 × Int32 × Int32 × Int32 × Int32 × Int32 × kF × kF × Int32 × Int32 × kF × kF × kF) :=
  if k0 = 0 ∨ k0 = 1 then some (k0, zsto, zdro, zfou, ztold, zwl, zwr, zle, zsh, zrolls, zfrm, ztk, zsr, zse) else none
def fn_X3_succeeds_148 (zsto : Int32) (zdro : Int32) (zfou : Int32) (ztold : Int32) (zwl : Int32) (zwr : Int32) (zle : kF) (zsh : kF) (zrolls : Int32) (zfrm : Int32) (ztk : kF) (zsr : kF) (zse : kF) : Option (Int32 × Int32 × Int32 × Int32 × Int32 × Int32 × Int32 × kF × kF × Int32 × Int32 × kF × kF × kF) :=
  fn_X3_succeeds_149 zsto zdro zfou ztold zwl zwr zle zsh zrolls zfrm ztk zsr zse (0 : Int32)
def fn_X3_succeeds_174 (zsto : Int32) (zdro : Int32) (zfou : Int32) (ztold : Int32) (zwl : Int32) (zwr : Int32) (zle : kF) (zsh : kF) (zrolls : Int32) (zfrm : Int32) (ztk : kF) (zsr : kF) (zse : kF) (k0 : Int32) : Option (Int32 × Int32 × Int32 × Int32 × Int32 × Int32 × Int32 × kF × kF × Int32 × Int32 × kF × kF × kF) :=
  if k0 = 0 ∨ k0 = 1 then some (k0, zsto, zdro, zfou, ztold, zwl, zwr, zle, zsh, zrolls, zfrm, ztk, zsr, zse) else none
def fn_X3_succeeds_173 (zsto : Int32) (zdro : Int32) (zfou : Int32) (ztold : Int32) (zwl : Int32) (zwr : Int32) (zle : kF) (zsh : kF) (zrolls : Int32) (zfrm : Int32) (ztk : kF) (zsr : kF) (zse : kF) : Option (Int32 × Int32 × Int32 × Int32 × Int32 × Int32 × Int32 × kF × kF × Int32 × Int32 × kF × kF × kF) :=
  fn_X3_succeeds_174 zsto zdro zfou ztold zwl zwr zle zsh zrolls zfrm ztk zsr zse (0 : Int32)
def fn_X3_succeeds_200 (zsto : Int32) (zdro : Int32) (zfou : Int32) (ztold : Int32) (zwl : Int32) (zwr : Int32) (zle : kF) (zsh : kF) (zrolls : Int32) (zfrm : Int32) (ztk : kF) (zsr : kF) (zse : kF) (k0 : Int32) : Option (Int32 × Int32 × Int32 × Int32 × Int32 × Int32 × Int32 × kF × kF × Int32 × Int32 × kF × kF × kF) :=
  if k0 = 0 ∨ k0 = 1 then some (k0, zsto, zdro, zfou, ztold, zwl, zwr, zle, zsh, zrolls, zfrm, ztk, zsr, zse) else none
def fn_X3_succeeds_199 (zsto : Int32) (zdro : Int32) (zfou : Int32) (ztold : Int32) (zwl : Int32) (zwr : Int32) (zle : kF) (zsh : kF) (zrolls : Int32) (zfrm : Int32) (ztk : kF) (zsr : kF) (zse : kF) : Option (Int32 × Int32 × Int32 × Int32 × Int32 × Int32 × Int32 × kF × kF × Int32 × Int32 × kF × kF × kF) :=
  fn_X3_succeeds_200 zsto zdro zfou ztold zwl zwr zle zsh zrolls zfrm ztk zsr zse (0 : Int32)
def fn_X3_succeeds_219 (zsto : Int32) (zdro : Int32) (zfou : Int32) (ztold : Int32) (zwl : Int32) (zwr : Int32) (zle : kF) (zsh : kF) (zrolls : Int32) (zfrm : Int32) (ztk : kF) (zsr : kF) (zse : kF) (k0 : Int32) : Option (Int32 × Int32 × Int32 × Int32 × Int32 × Int32 × Int32 × kF × kF × Int32 × Int32 × kF × kF × kF) :=
  if k0 = 0 ∨ k0 = 1 then some (k0, zsto, zdro, zfou, ztold, zwl, zwr, zle, zsh, zrolls, zfrm, ztk, zsr, zse) else none
def fn_X3_succeeds_218 (zsto : Int32) (zdro : Int32) (zfou : Int32) (ztold : Int32) (zwl : Int32) (zwr : Int32) (zle : kF) (zsh : kF) (zrolls : Int32) (zfrm : Int32) (ztk : kF) (zsr : kF) (zse : kF) : Option (Int32 × Int32 × Int32 × Int32 × Int32 × Int32 × Int32 × kF × kF × Int32 × Int32 × kF × kF × kF) :=
  fn_X3_succeeds_219 zsto zdro zfou ztold zwl zwr zle zsh zrolls zfrm ztk zsr zse (0 : Int32)
def fn_X3_succeeds_254 (zsto : Int32) (zdro : Int32) (zfou : Int32) (ztold : Int32) (zwl : Int32) (zwr : Int32) (zle : kF) (zsh : kF) (zrolls : Int32) (zfrm : Int32) (ztk : kF) (zsr : kF) (zse : kF) (k0 : Int32) : Option (Int32 × Int32 × Int32 × Int32 × Int32 × Int32 × Int32 × kF × kF × Int32 × Int32 × kF × kF × kF) :=
  if k0 = 0 ∨ k0 = 1 then some (k0, zsto, zdro, zfou, ztold, zwl, zwr, zle, zsh, zrolls, zfrm, ztk, zsr, zse) else none
def fn_X3_succeeds_253 (zsto : Int32) (zdro : Int32) (zfou : Int32) (ztold : Int32) (zwl : Int32) (zwr : Int32) (zle : kF) (zsh : kF) (zrolls : Int32) (zfrm : Int32) (ztk : kF) (zsr : kF) (zse : kF) : Option (Int32 × Int32 × Int32 × Int32 × Int32 × Int32 × Int32 × kF × kF × Int32 × Int32 × kF × kF × kF) :=
  fn_X3_succeeds_254 zsto zdro zfou ztold zwl zwr zle zsh zrolls zfrm ztk zsr zse (0 : Int32)
def fn_X3_succeeds_282 (zsto : Int32) (zdro : Int32) (zfou : Int32) (ztold : Int32) (zwl : Int32) (zwr : Int32) (zle : kF) (zsh : kF) (zrolls : Int32) (zfrm : Int32) (ztk : kF) (zsr : kF) (zse : kF) (k0 : Int32) : Option (Int32 × Int32 × Int32 × Int32 × Int32 × Int32 × Int32 × kF × kF × Int32 × Int32 × kF × kF × kF) :=
  if k0 = 0 ∨ k0 = 1 then some (k0, zsto, zdro, zfou, ztold, zwl, zwr, zle, zsh, zrolls, zfrm, ztk, zsr, zse) else none
def fn_X3_succeeds_281 (zsto : Int32) (zdro : Int32) (zfou : Int32) (ztold : Int32) (zwl : Int32) (zwr : Int32) (zle : kF) (zsh : kF) (zrolls : Int32) (zfrm : Int32) (ztk : kF) (zsr : kF) (zse : kF) : Option (Int32 × Int32 × Int32 × Int32 × Int32 × Int32 × Int32 × kF × kF × Int32 × Int32 × kF × kF × kF) :=
  fn_X3_succeeds_282 zsto zdro zfou ztold zwl zwr zle zsh zrolls zfrm ztk zsr zse (0 : Int32)
def fn_X3_succeeds_315 (zsto : Int32) (zdro : Int32) (zfou : Int32) (ztold : Int32) (zwl : Int32) (zwr : Int32) (zle : kF) (zsh : kF) (zrolls : Int32) (zfrm : Int32) (ztk : kF) (zsr : kF) (zse : kF) (k0 : Int32) : Option (Int32 × Int32 × Int32 × Int32 × Int32 × Int32 × Int32 × kF × kF × Int32 × Int32 × kF × kF × kF) :=
  if k0 = 0 ∨ k0 = 1 then some (k0, zsto, zdro, zfou, ztold, zwl, zwr, zle, zsh, zrolls, zfrm, ztk, zsr, zse) else none
def fn_X3_succeeds_314 (zsto : Int32) (zdro : Int32) (zfou : Int32) (ztold : Int32) (zwl : Int32) (zwr : Int32) (zle : kF) (zsh : kF) (zrolls : Int32) (zfrm : Int32) (ztk : kF) (zsr : kF) (zse : kF) : Option (Int32 × Int32 × Int32 × Int32 × Int32 × Int32 × Int32 × kF × kF × Int32 × Int32 × kF × kF × kF) :=
  fn_X3_succeeds_315 zsto zdro zfou ztold zwl zwr zle zsh zrolls zfrm ztk zsr zse (0 : Int32)
def fn_X3_succeeds_343 (zsto : Int32) (zdro : Int32) (zfou : Int32) (ztold : Int32) (zwl : Int32) (zwr : Int32) (zle : kF) (zsh : kF) (zrolls : Int32) (zfrm : Int32) (ztk : kF) (zsr : kF) (zse : kF) (k0 : Int32) : Option (Int32 × Int32 × Int32 × Int32 × Int32 × Int32 × Int32 × kF × kF × Int32 × Int32 × kF × kF × kF) :=
  if k0 = 0 ∨ k0 = 1 then some (k0, zsto, zdro, zfou, ztold, zwl, zwr, zle, zsh, zrolls, zfrm, ztk, zsr, zse) else none
def fn_X3_succeeds_342 (zsto : Int32) (zdro : Int32) (zfou : Int32) (ztold : Int32) (zwl : Int32) (zwr : Int32) (zle : kF) (zsh : kF) (zrolls : Int32) (zfrm : Int32) (ztk : kF) (zsr : kF) (zse : kF) : Option (Int32 × Int32 × Int32 × Int32 × Int32 × Int32 × Int32 × kF × kF × Int32 × Int32 × kF × kF × kF) :=
  fn_X3_succeeds_343 zsto zdro zfou ztold zwl zwr zle zsh zrolls zfrm ztk zsr zse (0 : Int32)
def fn_X3_succeeds (zsto : Int32) (zdro : Int32) (zfou : Int32) (ztold : Int32) (zwl : Int32) (zwr : Int32) (zle : kF) (zsh : kF) (zrolls : Int32) (zfrm : Int32) (ztk : kF) (zsr : kF) (zse : kF) (x1 : Int32) : Option (Int32 × Int32 × Int32 × Int32 × Int32 × Int32 × Int32 × kF × kF × Int32 × Int32 × kF × kF × kF) :=
  if (x1 / (10000 : Int32)) = 1 then if (x1 - x1 / (10 : Int32) * (10 : Int32)) = 0 then (fn_X6_tryRoll zsto zdro zfou ztold zwl zwr zle zsh zrolls zfrm ztk zsr zse (((10 : Int32) * ((x1 / (1000 : Int32)) - (x1 / (1000 : Int32)) / (10 : Int32) * (10 : Int32))) + ((x1 / (100 : Int32)) - (x1 / (100 : Int32)) / (10 : Int32) * (10 : Int32))) (((x1 / (10 : Int32)) - (x1 / (10 : Int32)) / (10 : Int32) * (10 : Int32)) - (2 : Int32)) (30 : Int32) (0 : Int32)).bind fun o107 => if o107.1 = 0 then fn_X3_succeeds_117 o107.2.1 o107.2.2.1 o107.2.2.2.1 o107.2.2.2.2.1 o107.2.2.2.2.2.1 o107.2.2.2.2.2.2.1 o107.2.2.2.2.2.2.2.1 o107.2.2.2.2.2.2.2.2.1 o107.2.2.2.2.2.2.2.2.2.1 o107.2.2.2.2.2.2.2.2.2.2.1 o107.2.2.2.2.2.2.2.2.2.2.2.1 o107.2.2.2.2.2.2.2.2.2.2.2.2 zse else fn_X3_succeeds_118 o107.2.1 o107.2.2.1 o107.2.2.2.1 o107.2.2.2.2.1 o107.2.2.2.2.2.1 o107.2.2.2.2.2.2.1 o107.2.2.2.2.2.2.2.1 o107.2.2.2.2.2.2.2.2.1 o107.2.2.2.2.2.2.2.2.2.1 o107.2.2.2.2.2.2.2.2.2.2.1 o107.2.2.2.2.2.2.2.2.2.2.2.1 o107.2.2.2.2.2.2.2.2.2.2.2.2 zse (1 : Int32) else fn_X3_succeeds_117 zsto zdro zfou ztold zwl zwr zle zsh zrolls zfrm ztk zsr zse else if (x1 / (10000 : Int32)) = 2 then if (x1 - x1 / (10 : Int32) * (10 : Int32)) = 0 then (fn_X6_tryRoll zsto zdro zfou ztold zwl zwr zle zsh zrolls zfrm ztk zsr zse (((10 : Int32) * ((x1 / (1000 : Int32)) - (x1 / (1000 : Int32)) / (10 : Int32) * (10 : Int32))) + ((x1 / (100 : Int32)) - (x1 / (100 : Int32)) / (10 : Int32) * (10 : Int32))) (((x1 / (10 : Int32)) - (x1 / (10 : Int32)) / (10 : Int32) * (10 : Int32)) - (2 : Int32)) (30 : Int32) (1 : Int32)).bind fun o138 => if o138.1 = 0 then fn_X3_succeeds_148 o138.2.1 o138.2.2.1 o138.2.2.2.1 o138.2.2.2.2.1 o138.2.2.2.2.2.1 o138.2.2.2.2.2.2.1 o138.2.2.2.2.2.2.2.1 o138.2.2.2.2.2.2.2.2.1 o138.2.2.2.2.2.2.2.2.2.1 o138.2.2.2.2.2.2.2.2.2.2.1 o138.2.2.2.2.2.2.2.2.2.2.2.1 o138.2.2.2.2.2.2.2.2.2.2.2.2 zse else fn_X3_succeeds_149 o138.2.1 o138.2.2.1 o138.2.2.2.1 o138.2.2.2.2.1 o138.2.2.2.2.2.1 o138.2.2.2.2.2.2.1 o138.2.2.2.2.2.2.2.1 o138.2.2.2.2.2.2.2.2.1 o138.2.2.2.2.2.2.2.2.2.1 o138.2.2.2.2.2.2.2.2.2.2.1 o138.2.2.2.2.2.2.2.2.2.2.2.1 o138.2.2.2.2.2.2.2.2.2.2.2.2 zse (1 : Int32) else fn_X3_succeeds_148 zsto zdro zfou ztold zwl zwr zle zsh zrolls zfrm ztk zsr zse else if (x1 / (10000 : Int32)) = 3 then if ((x1 / (10 : Int32)) - (x1 / (10 : Int32)) / (10 : Int32) * (10 : Int32)) = 0 then if (x1 - x1 / (10 : Int32) * (10 : Int32)) = 0 then (fn_X6_tryTouch zle ((x1 / (1000 : Int32)) - (x1 / (1000 : Int32)) / (10 : Int32) * (10 : Int32)) ((x1 / (100 : Int32)) - (x1 / (100 : Int32)) / (10 : Int32) * (10 : Int32))).bind fun o163 => if o163.1 = 0 then fn_X3_succeeds_173 zsto zdro zfou ztold zwl zwr o163.2 zsh zrolls zfrm ztk zsr zse else fn_X3_succeeds_174 zsto zdro zfou ztold zwl zwr o163.2 zsh zrolls zfrm ztk zsr zse (1 : Int32) else fn_X3_succeeds_173 zsto zdro zfou ztold zwl zwr zle zsh zrolls zfrm ztk zsr zse else fn_X3_succeeds_173 zsto zdro zfou ztold zwl zwr zle zsh zrolls zfrm ztk zsr zse else if (x1 / (10000 : Int32)) = 4 then if (x1 - x1 / (10 : Int32) * (10 : Int32)) = 0 then (fn_X6_trySet zse ((x1 / (1000 : Int32)) - (x1 / (1000 : Int32)) / (10 : Int32) * (10 : Int32)) (((10 : Int32) * ((x1 / (100 : Int32)) - (x1 / (100 : Int32)) / (10 : Int32) * (10 : Int32))) + ((x1 / (10 : Int32)) - (x1 / (10 : Int32)) / (10 : Int32) * (10 : Int32)))).bind fun o189 => if o189.1 = 0 then fn_X3_succeeds_199 zsto zdro zfou ztold zwl zwr zle zsh zrolls zfrm ztk zsr o189.2 else fn_X3_succeeds_200 zsto zdro zfou ztold zwl zwr zle zsh zrolls zfrm ztk zsr o189.2 (1 : Int32) else fn_X3_succeeds_199 zsto zdro zfou ztold zwl zwr zle zsh zrolls zfrm ztk zsr zse else if (x1 / (10000 : Int32)) = 5 then if x1 = (50000 : Int32) then (fn_X3_begins ztold zle zsh zrolls zfrm ztk zsr).bind fun o208 => if o208.1 = 0 then fn_X3_succeeds_218 zsto zdro zfou o208.2.1 zwl zwr o208.2.2.1 o208.2.2.2.1 o208.2.2.2.2.1 o208.2.2.2.2.2 ztk zsr zse else fn_X3_succeeds_219 zsto zdro zfou o208.2.1 zwl zwr o208.2.2.1 o208.2.2.2.1 o208.2.2.2.2.1 o208.2.2.2.2.2 ztk zsr zse (1 : Int32) else fn_X3_succeeds_218 zsto zdro zfou ztold zwl zwr zle zsh zrolls zfrm ztk zsr zse else if (x1 / (10000 : Int32)) = 6 then if ((x1 / (1000 : Int32)) - (x1 / (1000 : Int32)) / (10 : Int32) * (10 : Int32)) = 0 then if ((x1 / (100 : Int32)) - (x1 / (100 : Int32)) / (10 : Int32) * (10 : Int32)) = 0 then (fn_X2_toldSet ztold).bind fun o232 => (fn_J6_bitCount_0f7a4 o232).bind fun o235 => if (((10 : Int32) * ((x1 / (10 : Int32)) - (x1 / (10 : Int32)) / (10 : Int32) * (10 : Int32))) + (x1 - x1 / (10 : Int32) * (10 : Int32))) < o235 then fn_X3_succeeds_253 zsto zdro zfou ztold zwl zwr zle zsh zrolls zfrm ztk zsr zse else fn_X3_succeeds_254 zsto zdro zfou ztold zwl zwr zle zsh zrolls zfrm ztk zsr zse (1 : Int32) else fn_X3_succeeds_253 zsto zdro zfou ztold zwl zwr zle zsh zrolls zfrm ztk zsr zse else fn_X3_succeeds_253 zsto zdro zfou ztold zwl zwr zle zsh zrolls zfrm ztk zsr zse else if (x1 / (10000 : Int32)) = 7 then if ((x1 / (10 : Int32)) - (x1 / (10 : Int32)) / (10 : Int32) * (10 : Int32)) = 0 then if (x1 - x1 / (10 : Int32) * (10 : Int32)) = 0 then (fn_X2_leaningOf zle ((x1 / (1000 : Int32)) - (x1 / (1000 : Int32)) / (10 : Int32) * (10 : Int32))).bind fun o270 => if o270 = ((x1 / (100 : Int32)) - (x1 / (100 : Int32)) / (10 : Int32) * (10 : Int32)) then fn_X3_succeeds_282 zsto zdro zfou ztold zwl zwr zle zsh zrolls zfrm ztk zsr zse (1 : Int32) else fn_X3_succeeds_281 zsto zdro zfou ztold zwl zwr zle zsh zrolls zfrm ztk zsr zse else fn_X3_succeeds_281 zsto zdro zfou ztold zwl zwr zle zsh zrolls zfrm ztk zsr zse else fn_X3_succeeds_281 zsto zdro zfou ztold zwl zwr zle zsh zrolls zfrm ztk zsr zse else if (x1 / (10000 : Int32)) = 8 then if ((x1 / (1000 : Int32)) - (x1 / (1000 : Int32)) / (10 : Int32) * (10 : Int32)) = 0 then (fn_X4_allPoints zrolls zfrm ztk zsr).bind fun o291 => if o291 < ((((100 : Int32) * ((x1 / (100 : Int32)) - (x1 / (100 : Int32)) / (10 : Int32) * (10 : Int32))) + ((10 : Int32) * ((x1 / (10 : Int32)) - (x1 / (10 : Int32)) / (10 : Int32) * (10 : Int32)))) + (x1 - x1 / (10 : Int32) * (10 : Int32))) then fn_X3_succeeds_314 zsto zdro zfou ztold zwl zwr zle zsh zrolls zfrm ztk zsr zse else fn_X3_succeeds_315 zsto zdro zfou ztold zwl zwr zle zsh zrolls zfrm ztk zsr zse (1 : Int32) else fn_X3_succeeds_314 zsto zdro zfou ztold zwl zwr zle zsh zrolls zfrm ztk zsr zse else if (x1 / (10000 : Int32)) = 9 then if ((x1 / (100 : Int32)) - (x1 / (100 : Int32)) / (10 : Int32) * (10 : Int32)) = 0 then if ((x1 / (10 : Int32)) - (x1 / (10 : Int32)) / (10 : Int32) * (10 : Int32)) = 0 then (fn_X4_markOf zrolls zfrm ztk zsr ((x1 / (1000 : Int32)) - (x1 / (1000 : Int32)) / (10 : Int32) * (10 : Int32))).bind fun o330 => if o330 = (x1 - x1 / (10 : Int32) * (10 : Int32)) then fn_X3_succeeds_343 zsto zdro zfou ztold zwl zwr zle zsh zrolls zfrm ztk zsr zse (1 : Int32) else fn_X3_succeeds_342 zsto zdro zfou ztold zwl zwr zle zsh zrolls zfrm ztk zsr zse else fn_X3_succeeds_342 zsto zdro zfou ztold zwl zwr zle zsh zrolls zfrm ztk zsr zse else fn_X3_succeeds_342 zsto zdro zfou ztold zwl zwr zle zsh zrolls zfrm ztk zsr zse else some ((0 : Int32), zsto, zdro, zfou, ztold, zwl, zwr, zle, zsh, zrolls, zfrm, ztk, zsr, zse)
theorem iw_X3_succeeds_X6 : ∀ w ∈ wsX60, w ∈ wsX3_succeeds := by decide +kernel
set_option maxHeartbeats 4000000 in
set_option maxRecDepth 100000 in
theorem mk_X3_succeeds (l : Launch) (D : va_G) (cI : Nat → ClassId) (azT azP azS azSe azLe azSh azTk azSr : Nat) (sz : Nat) (zsto : Int32) (zdro : Int32) (zfou : Int32) (ztold : Int32) (zwl : Int32) (zwr : Int32) (zle : kF) (zsh : kF) (zrolls : Int32) (zfrm : Int32) (ztk : kF) (zsr : kF) (zse : kF) (x1 : Int32) (o : Int32 × Int32 × Int32 × Int32 × Int32 × Int32 × Int32 × kF × kF × Int32 × Int32 × kF × kF × kF) (hq : fn_X3_succeeds zsto zdro zfou ztold zwl zwr zle zsh zrolls zfrm ztk zsr zse x1 = some o) : Met l yX3_succeeds wsX3_succeeds ({ frames := 6, cells := 0, slots := 0, locals := 129 }) (kPc D cI [(azT, .inr (5, [.ref azP, .ref azS, .ref azSe, .int zsto, .int zdro, .int zfou])), (azP, .inr (2, [.ref azLe, .ref azSh, .int ztold, .int zwl, .int zwr])), (azLe, .inl (cI 0, 10, .inl zle)), (azSh, .inl (cI 0, 10, .inl zsh)), (azS, .inr (3, [.ref azTk, .ref azSr, .int zrolls, .int zfrm])), (azTk, .inl (cI 0, 21, .inl ztk)), (azSr, .inl (cI 0, 11, .inl zsr)), (azSe, .inl (cI 0, 3, .inl zse))] sz [.ref azT, .int x1]) (kQi D [(azT, .inr (5, [.ref azP, .ref azS, .ref azSe, .int zsto, .int zdro, .int zfou])), (azP, .inr (2, [.ref azLe, .ref azSh, .int ztold, .int zwl, .int zwr])), (azLe, .inl (cI 0, 10, .inl zle)), (azSh, .inl (cI 0, 10, .inl zsh)), (azS, .inr (3, [.ref azTk, .ref azSr, .int zrolls, .int zfrm])), (azTk, .inl (cI 0, 21, .inl ztk)), (azSr, .inl (cI 0, 11, .inl zsr)), (azSe, .inl (cI 0, 3, .inl zse))] [(azT, .inr (5, [.ref azP, .ref azS, .ref azSe, .int o.2.1, .int o.2.2.1, .int o.2.2.2.1])), (azP, .inr (2, [.ref azLe, .ref azSh, .int o.2.2.2.2.1, .int o.2.2.2.2.2.1, .int o.2.2.2.2.2.2.1])), (azLe, .inl (cI 0, 10, .inl o.2.2.2.2.2.2.2.1)), (azSh, .inl (cI 0, 10, .inl o.2.2.2.2.2.2.2.2.1)), (azS, .inr (3, [.ref azTk, .ref azSr, .int o.2.2.2.2.2.2.2.2.2.1, .int o.2.2.2.2.2.2.2.2.2.2.1])), (azTk, .inl (cI 0, 21, .inl o.2.2.2.2.2.2.2.2.2.2.2.1)), (azSr, .inl (cI 0, 11, .inl o.2.2.2.2.2.2.2.2.2.2.2.2.1)), (azSe, .inl (cI 0, 3, .inl o.2.2.2.2.2.2.2.2.2.2.2.2.2))] sz o.1) 0 0 (va_A [(azT, .inr (5, [.ref azP, .ref azS, .ref azSe, .int zsto, .int zdro, .int zfou])), (azP, .inr (2, [.ref azLe, .ref azSh, .int ztold, .int zwl, .int zwr])), (azLe, .inl (cI 0, 10, .inl zle)), (azSh, .inl (cI 0, 10, .inl zsh)), (azS, .inr (3, [.ref azTk, .ref azSr, .int zrolls, .int zfrm])), (azTk, .inl (cI 0, 21, .inl ztk)), (azSr, .inl (cI 0, 11, .inl zsr)), (azSe, .inl (cI 0, 3, .inl zse))] sz) := by
  refine kM_z (cc := cX3_succeeds) (maxL := 6) (by decide +kernel) rfl (Nat.le_of_ble_eq_true rfl) ?_
  intro p e s m args below meth c A Q hF hK hG hD hA hend ls hP hS hl
  obtain ⟨hx, hb, hml, hown, hts⟩ := id hF
  have hl : lv_has ls 6 [(0, .ref azT), (1, .int x1)] := hl
  have b_118 : ∀ (H : Heap) (locs : List Loc) (ls : Array Slot) (zsto : Int32) (zdro : Int32) (zfou : Int32) (ztold : Int32) (zwl : Int32) (zwr : Int32) (zle : kF) (zsh : kF) (zrolls : Int32) (zfrm : Int32) (ztk : kF) (zsr : kF) (zse : kF) (k0 : Int32), fn_X3_succeeds_118 zsto zdro zfou ztold zwl zwr zle zsh zrolls zfrm ztk zsr zse k0 = some o → va_P D vwCl [(azT, .inr (5, [.ref azP, .ref azS, .ref azSe, .int zsto, .int zdro, .int zfou])), (azP, .inr (2, [.ref azLe, .ref azSh, .int ztold, .int zwl, .int zwr])), (azLe, .inl (cI 0, 10, .inl zle)), (azSh, .inl (cI 0, 10, .inl zsh)), (azS, .inr (3, [.ref azTk, .ref azSr, .int zrolls, .int zfrm])), (azTk, .inl (cI 0, 21, .inl ztk)), (azSr, .inl (cI 0, 11, .inl zsr)), (azSe, .inl (cI 0, 3, .inl zse))] H → va_D A [(azT, .inr (5, [.ref azP, .ref azS, .ref azSe, .int zsto, .int zdro, .int zfou])), (azP, .inr (2, [.ref azLe, .ref azSh, .int ztold, .int zwl, .int zwr])), (azLe, .inl (cI 0, 10, .inl zle)), (azSh, .inl (cI 0, 10, .inl zsh)), (azS, .inr (3, [.ref azTk, .ref azSr, .int zrolls, .int zfrm])), (azTk, .inl (cI 0, 21, .inl ztk)), (azSr, .inl (cI 0, 11, .inl zsr)), (azSe, .inl (cI 0, 3, .inl zse))] → va_S A s.heap H locs → lv_has ls 6 [] → W p l e { frames := 6, cells := 0, slots := 0, locals := 129 } s m args below meth c H locs 0 0 Q (F0 m 118 ls [.int k0]) := by
    intro H locs ls zsto zdro zfou ztold zwl zwr zle zsh zrolls zfrm ztk zsr zse k0
    intro hq hP hD hS hl
    obtain ⟨hz, hq⟩ := kite_b hq
    have ho := Option.some.inj hq
    subst ho
    exact hend _ _ _ _ hz hP hS dX3_succeeds_118
  have b_117 : ∀ (H : Heap) (locs : List Loc) (ls : Array Slot) (zsto : Int32) (zdro : Int32) (zfou : Int32) (ztold : Int32) (zwl : Int32) (zwr : Int32) (zle : kF) (zsh : kF) (zrolls : Int32) (zfrm : Int32) (ztk : kF) (zsr : kF) (zse : kF), fn_X3_succeeds_117 zsto zdro zfou ztold zwl zwr zle zsh zrolls zfrm ztk zsr zse = some o → va_P D vwCl [(azT, .inr (5, [.ref azP, .ref azS, .ref azSe, .int zsto, .int zdro, .int zfou])), (azP, .inr (2, [.ref azLe, .ref azSh, .int ztold, .int zwl, .int zwr])), (azLe, .inl (cI 0, 10, .inl zle)), (azSh, .inl (cI 0, 10, .inl zsh)), (azS, .inr (3, [.ref azTk, .ref azSr, .int zrolls, .int zfrm])), (azTk, .inl (cI 0, 21, .inl ztk)), (azSr, .inl (cI 0, 11, .inl zsr)), (azSe, .inl (cI 0, 3, .inl zse))] H → va_D A [(azT, .inr (5, [.ref azP, .ref azS, .ref azSe, .int zsto, .int zdro, .int zfou])), (azP, .inr (2, [.ref azLe, .ref azSh, .int ztold, .int zwl, .int zwr])), (azLe, .inl (cI 0, 10, .inl zle)), (azSh, .inl (cI 0, 10, .inl zsh)), (azS, .inr (3, [.ref azTk, .ref azSr, .int zrolls, .int zfrm])), (azTk, .inl (cI 0, 21, .inl ztk)), (azSr, .inl (cI 0, 11, .inl zsr)), (azSe, .inl (cI 0, 3, .inl zse))] → va_S A s.heap H locs → lv_has ls 6 [] → W p l e { frames := 6, cells := 0, slots := 0, locals := 129 } s m args below meth c H locs 0 0 Q (F0 m 117 ls []) := by
    intro H locs ls zsto zdro zfou ztold zwl zwr zle zsh zrolls zfrm ztk zsr zse
    intro hq hP hD hS hl
    refine lv_iconst (v := 0) hx hb dX3_succeeds_117 (by decide) ?_
    exact b_118  _ _ _ zsto zdro zfou ztold zwl zwr zle zsh zrolls zfrm ztk zsr zse (0 : Int32) hq hP hD hS (lv_sub hl [] rfl)
  have b_149 : ∀ (H : Heap) (locs : List Loc) (ls : Array Slot) (zsto : Int32) (zdro : Int32) (zfou : Int32) (ztold : Int32) (zwl : Int32) (zwr : Int32) (zle : kF) (zsh : kF) (zrolls : Int32) (zfrm : Int32) (ztk : kF) (zsr : kF) (zse : kF) (k0 : Int32), fn_X3_succeeds_149 zsto zdro zfou ztold zwl zwr zle zsh zrolls zfrm ztk zsr zse k0 = some o → va_P D vwCl [(azT, .inr (5, [.ref azP, .ref azS, .ref azSe, .int zsto, .int zdro, .int zfou])), (azP, .inr (2, [.ref azLe, .ref azSh, .int ztold, .int zwl, .int zwr])), (azLe, .inl (cI 0, 10, .inl zle)), (azSh, .inl (cI 0, 10, .inl zsh)), (azS, .inr (3, [.ref azTk, .ref azSr, .int zrolls, .int zfrm])), (azTk, .inl (cI 0, 21, .inl ztk)), (azSr, .inl (cI 0, 11, .inl zsr)), (azSe, .inl (cI 0, 3, .inl zse))] H → va_D A [(azT, .inr (5, [.ref azP, .ref azS, .ref azSe, .int zsto, .int zdro, .int zfou])), (azP, .inr (2, [.ref azLe, .ref azSh, .int ztold, .int zwl, .int zwr])), (azLe, .inl (cI 0, 10, .inl zle)), (azSh, .inl (cI 0, 10, .inl zsh)), (azS, .inr (3, [.ref azTk, .ref azSr, .int zrolls, .int zfrm])), (azTk, .inl (cI 0, 21, .inl ztk)), (azSr, .inl (cI 0, 11, .inl zsr)), (azSe, .inl (cI 0, 3, .inl zse))] → va_S A s.heap H locs → lv_has ls 6 [] → W p l e { frames := 6, cells := 0, slots := 0, locals := 129 } s m args below meth c H locs 0 0 Q (F0 m 149 ls [.int k0]) := by
    intro H locs ls zsto zdro zfou ztold zwl zwr zle zsh zrolls zfrm ztk zsr zse k0
    intro hq hP hD hS hl
    obtain ⟨hz, hq⟩ := kite_b hq
    have ho := Option.some.inj hq
    subst ho
    exact hend _ _ _ _ hz hP hS dX3_succeeds_149
  have b_148 : ∀ (H : Heap) (locs : List Loc) (ls : Array Slot) (zsto : Int32) (zdro : Int32) (zfou : Int32) (ztold : Int32) (zwl : Int32) (zwr : Int32) (zle : kF) (zsh : kF) (zrolls : Int32) (zfrm : Int32) (ztk : kF) (zsr : kF) (zse : kF), fn_X3_succeeds_148 zsto zdro zfou ztold zwl zwr zle zsh zrolls zfrm ztk zsr zse = some o → va_P D vwCl [(azT, .inr (5, [.ref azP, .ref azS, .ref azSe, .int zsto, .int zdro, .int zfou])), (azP, .inr (2, [.ref azLe, .ref azSh, .int ztold, .int zwl, .int zwr])), (azLe, .inl (cI 0, 10, .inl zle)), (azSh, .inl (cI 0, 10, .inl zsh)), (azS, .inr (3, [.ref azTk, .ref azSr, .int zrolls, .int zfrm])), (azTk, .inl (cI 0, 21, .inl ztk)), (azSr, .inl (cI 0, 11, .inl zsr)), (azSe, .inl (cI 0, 3, .inl zse))] H → va_D A [(azT, .inr (5, [.ref azP, .ref azS, .ref azSe, .int zsto, .int zdro, .int zfou])), (azP, .inr (2, [.ref azLe, .ref azSh, .int ztold, .int zwl, .int zwr])), (azLe, .inl (cI 0, 10, .inl zle)), (azSh, .inl (cI 0, 10, .inl zsh)), (azS, .inr (3, [.ref azTk, .ref azSr, .int zrolls, .int zfrm])), (azTk, .inl (cI 0, 21, .inl ztk)), (azSr, .inl (cI 0, 11, .inl zsr)), (azSe, .inl (cI 0, 3, .inl zse))] → va_S A s.heap H locs → lv_has ls 6 [] → W p l e { frames := 6, cells := 0, slots := 0, locals := 129 } s m args below meth c H locs 0 0 Q (F0 m 148 ls []) := by
    intro H locs ls zsto zdro zfou ztold zwl zwr zle zsh zrolls zfrm ztk zsr zse
    intro hq hP hD hS hl
    refine lv_iconst (v := 0) hx hb dX3_succeeds_148 (by decide) ?_
    exact b_149  _ _ _ zsto zdro zfou ztold zwl zwr zle zsh zrolls zfrm ztk zsr zse (0 : Int32) hq hP hD hS (lv_sub hl [] rfl)
  have b_174 : ∀ (H : Heap) (locs : List Loc) (ls : Array Slot) (zsto : Int32) (zdro : Int32) (zfou : Int32) (ztold : Int32) (zwl : Int32) (zwr : Int32) (zle : kF) (zsh : kF) (zrolls : Int32) (zfrm : Int32) (ztk : kF) (zsr : kF) (zse : kF) (k0 : Int32), fn_X3_succeeds_174 zsto zdro zfou ztold zwl zwr zle zsh zrolls zfrm ztk zsr zse k0 = some o → va_P D vwCl [(azT, .inr (5, [.ref azP, .ref azS, .ref azSe, .int zsto, .int zdro, .int zfou])), (azP, .inr (2, [.ref azLe, .ref azSh, .int ztold, .int zwl, .int zwr])), (azLe, .inl (cI 0, 10, .inl zle)), (azSh, .inl (cI 0, 10, .inl zsh)), (azS, .inr (3, [.ref azTk, .ref azSr, .int zrolls, .int zfrm])), (azTk, .inl (cI 0, 21, .inl ztk)), (azSr, .inl (cI 0, 11, .inl zsr)), (azSe, .inl (cI 0, 3, .inl zse))] H → va_D A [(azT, .inr (5, [.ref azP, .ref azS, .ref azSe, .int zsto, .int zdro, .int zfou])), (azP, .inr (2, [.ref azLe, .ref azSh, .int ztold, .int zwl, .int zwr])), (azLe, .inl (cI 0, 10, .inl zle)), (azSh, .inl (cI 0, 10, .inl zsh)), (azS, .inr (3, [.ref azTk, .ref azSr, .int zrolls, .int zfrm])), (azTk, .inl (cI 0, 21, .inl ztk)), (azSr, .inl (cI 0, 11, .inl zsr)), (azSe, .inl (cI 0, 3, .inl zse))] → va_S A s.heap H locs → lv_has ls 6 [] → W p l e { frames := 6, cells := 0, slots := 0, locals := 129 } s m args below meth c H locs 0 0 Q (F0 m 174 ls [.int k0]) := by
    intro H locs ls zsto zdro zfou ztold zwl zwr zle zsh zrolls zfrm ztk zsr zse k0
    intro hq hP hD hS hl
    obtain ⟨hz, hq⟩ := kite_b hq
    have ho := Option.some.inj hq
    subst ho
    exact hend _ _ _ _ hz hP hS dX3_succeeds_174
  have b_173 : ∀ (H : Heap) (locs : List Loc) (ls : Array Slot) (zsto : Int32) (zdro : Int32) (zfou : Int32) (ztold : Int32) (zwl : Int32) (zwr : Int32) (zle : kF) (zsh : kF) (zrolls : Int32) (zfrm : Int32) (ztk : kF) (zsr : kF) (zse : kF), fn_X3_succeeds_173 zsto zdro zfou ztold zwl zwr zle zsh zrolls zfrm ztk zsr zse = some o → va_P D vwCl [(azT, .inr (5, [.ref azP, .ref azS, .ref azSe, .int zsto, .int zdro, .int zfou])), (azP, .inr (2, [.ref azLe, .ref azSh, .int ztold, .int zwl, .int zwr])), (azLe, .inl (cI 0, 10, .inl zle)), (azSh, .inl (cI 0, 10, .inl zsh)), (azS, .inr (3, [.ref azTk, .ref azSr, .int zrolls, .int zfrm])), (azTk, .inl (cI 0, 21, .inl ztk)), (azSr, .inl (cI 0, 11, .inl zsr)), (azSe, .inl (cI 0, 3, .inl zse))] H → va_D A [(azT, .inr (5, [.ref azP, .ref azS, .ref azSe, .int zsto, .int zdro, .int zfou])), (azP, .inr (2, [.ref azLe, .ref azSh, .int ztold, .int zwl, .int zwr])), (azLe, .inl (cI 0, 10, .inl zle)), (azSh, .inl (cI 0, 10, .inl zsh)), (azS, .inr (3, [.ref azTk, .ref azSr, .int zrolls, .int zfrm])), (azTk, .inl (cI 0, 21, .inl ztk)), (azSr, .inl (cI 0, 11, .inl zsr)), (azSe, .inl (cI 0, 3, .inl zse))] → va_S A s.heap H locs → lv_has ls 6 [] → W p l e { frames := 6, cells := 0, slots := 0, locals := 129 } s m args below meth c H locs 0 0 Q (F0 m 173 ls []) := by
    intro H locs ls zsto zdro zfou ztold zwl zwr zle zsh zrolls zfrm ztk zsr zse
    intro hq hP hD hS hl
    refine lv_iconst (v := 0) hx hb dX3_succeeds_173 (by decide) ?_
    exact b_174  _ _ _ zsto zdro zfou ztold zwl zwr zle zsh zrolls zfrm ztk zsr zse (0 : Int32) hq hP hD hS (lv_sub hl [] rfl)
  have b_200 : ∀ (H : Heap) (locs : List Loc) (ls : Array Slot) (zsto : Int32) (zdro : Int32) (zfou : Int32) (ztold : Int32) (zwl : Int32) (zwr : Int32) (zle : kF) (zsh : kF) (zrolls : Int32) (zfrm : Int32) (ztk : kF) (zsr : kF) (zse : kF) (k0 : Int32), fn_X3_succeeds_200 zsto zdro zfou ztold zwl zwr zle zsh zrolls zfrm ztk zsr zse k0 = some o → va_P D vwCl [(azT, .inr (5, [.ref azP, .ref azS, .ref azSe, .int zsto, .int zdro, .int zfou])), (azP, .inr (2, [.ref azLe, .ref azSh, .int ztold, .int zwl, .int zwr])), (azLe, .inl (cI 0, 10, .inl zle)), (azSh, .inl (cI 0, 10, .inl zsh)), (azS, .inr (3, [.ref azTk, .ref azSr, .int zrolls, .int zfrm])), (azTk, .inl (cI 0, 21, .inl ztk)), (azSr, .inl (cI 0, 11, .inl zsr)), (azSe, .inl (cI 0, 3, .inl zse))] H → va_D A [(azT, .inr (5, [.ref azP, .ref azS, .ref azSe, .int zsto, .int zdro, .int zfou])), (azP, .inr (2, [.ref azLe, .ref azSh, .int ztold, .int zwl, .int zwr])), (azLe, .inl (cI 0, 10, .inl zle)), (azSh, .inl (cI 0, 10, .inl zsh)), (azS, .inr (3, [.ref azTk, .ref azSr, .int zrolls, .int zfrm])), (azTk, .inl (cI 0, 21, .inl ztk)), (azSr, .inl (cI 0, 11, .inl zsr)), (azSe, .inl (cI 0, 3, .inl zse))] → va_S A s.heap H locs → lv_has ls 6 [] → W p l e { frames := 6, cells := 0, slots := 0, locals := 129 } s m args below meth c H locs 0 0 Q (F0 m 200 ls [.int k0]) := by
    intro H locs ls zsto zdro zfou ztold zwl zwr zle zsh zrolls zfrm ztk zsr zse k0
    intro hq hP hD hS hl
    obtain ⟨hz, hq⟩ := kite_b hq
    have ho := Option.some.inj hq
    subst ho
    exact hend _ _ _ _ hz hP hS dX3_succeeds_200
  have b_199 : ∀ (H : Heap) (locs : List Loc) (ls : Array Slot) (zsto : Int32) (zdro : Int32) (zfou : Int32) (ztold : Int32) (zwl : Int32) (zwr : Int32) (zle : kF) (zsh : kF) (zrolls : Int32) (zfrm : Int32) (ztk : kF) (zsr : kF) (zse : kF), fn_X3_succeeds_199 zsto zdro zfou ztold zwl zwr zle zsh zrolls zfrm ztk zsr zse = some o → va_P D vwCl [(azT, .inr (5, [.ref azP, .ref azS, .ref azSe, .int zsto, .int zdro, .int zfou])), (azP, .inr (2, [.ref azLe, .ref azSh, .int ztold, .int zwl, .int zwr])), (azLe, .inl (cI 0, 10, .inl zle)), (azSh, .inl (cI 0, 10, .inl zsh)), (azS, .inr (3, [.ref azTk, .ref azSr, .int zrolls, .int zfrm])), (azTk, .inl (cI 0, 21, .inl ztk)), (azSr, .inl (cI 0, 11, .inl zsr)), (azSe, .inl (cI 0, 3, .inl zse))] H → va_D A [(azT, .inr (5, [.ref azP, .ref azS, .ref azSe, .int zsto, .int zdro, .int zfou])), (azP, .inr (2, [.ref azLe, .ref azSh, .int ztold, .int zwl, .int zwr])), (azLe, .inl (cI 0, 10, .inl zle)), (azSh, .inl (cI 0, 10, .inl zsh)), (azS, .inr (3, [.ref azTk, .ref azSr, .int zrolls, .int zfrm])), (azTk, .inl (cI 0, 21, .inl ztk)), (azSr, .inl (cI 0, 11, .inl zsr)), (azSe, .inl (cI 0, 3, .inl zse))] → va_S A s.heap H locs → lv_has ls 6 [] → W p l e { frames := 6, cells := 0, slots := 0, locals := 129 } s m args below meth c H locs 0 0 Q (F0 m 199 ls []) := by
    intro H locs ls zsto zdro zfou ztold zwl zwr zle zsh zrolls zfrm ztk zsr zse
    intro hq hP hD hS hl
    refine lv_iconst (v := 0) hx hb dX3_succeeds_199 (by decide) ?_
    exact b_200  _ _ _ zsto zdro zfou ztold zwl zwr zle zsh zrolls zfrm ztk zsr zse (0 : Int32) hq hP hD hS (lv_sub hl [] rfl)
  have b_219 : ∀ (H : Heap) (locs : List Loc) (ls : Array Slot) (zsto : Int32) (zdro : Int32) (zfou : Int32) (ztold : Int32) (zwl : Int32) (zwr : Int32) (zle : kF) (zsh : kF) (zrolls : Int32) (zfrm : Int32) (ztk : kF) (zsr : kF) (zse : kF) (k0 : Int32), fn_X3_succeeds_219 zsto zdro zfou ztold zwl zwr zle zsh zrolls zfrm ztk zsr zse k0 = some o → va_P D vwCl [(azT, .inr (5, [.ref azP, .ref azS, .ref azSe, .int zsto, .int zdro, .int zfou])), (azP, .inr (2, [.ref azLe, .ref azSh, .int ztold, .int zwl, .int zwr])), (azLe, .inl (cI 0, 10, .inl zle)), (azSh, .inl (cI 0, 10, .inl zsh)), (azS, .inr (3, [.ref azTk, .ref azSr, .int zrolls, .int zfrm])), (azTk, .inl (cI 0, 21, .inl ztk)), (azSr, .inl (cI 0, 11, .inl zsr)), (azSe, .inl (cI 0, 3, .inl zse))] H → va_D A [(azT, .inr (5, [.ref azP, .ref azS, .ref azSe, .int zsto, .int zdro, .int zfou])), (azP, .inr (2, [.ref azLe, .ref azSh, .int ztold, .int zwl, .int zwr])), (azLe, .inl (cI 0, 10, .inl zle)), (azSh, .inl (cI 0, 10, .inl zsh)), (azS, .inr (3, [.ref azTk, .ref azSr, .int zrolls, .int zfrm])), (azTk, .inl (cI 0, 21, .inl ztk)), (azSr, .inl (cI 0, 11, .inl zsr)), (azSe, .inl (cI 0, 3, .inl zse))] → va_S A s.heap H locs → lv_has ls 6 [] → W p l e { frames := 6, cells := 0, slots := 0, locals := 129 } s m args below meth c H locs 0 0 Q (F0 m 219 ls [.int k0]) := by
    intro H locs ls zsto zdro zfou ztold zwl zwr zle zsh zrolls zfrm ztk zsr zse k0
    intro hq hP hD hS hl
    obtain ⟨hz, hq⟩ := kite_b hq
    have ho := Option.some.inj hq
    subst ho
    exact hend _ _ _ _ hz hP hS dX3_succeeds_219
  have b_218 : ∀ (H : Heap) (locs : List Loc) (ls : Array Slot) (zsto : Int32) (zdro : Int32) (zfou : Int32) (ztold : Int32) (zwl : Int32) (zwr : Int32) (zle : kF) (zsh : kF) (zrolls : Int32) (zfrm : Int32) (ztk : kF) (zsr : kF) (zse : kF), fn_X3_succeeds_218 zsto zdro zfou ztold zwl zwr zle zsh zrolls zfrm ztk zsr zse = some o → va_P D vwCl [(azT, .inr (5, [.ref azP, .ref azS, .ref azSe, .int zsto, .int zdro, .int zfou])), (azP, .inr (2, [.ref azLe, .ref azSh, .int ztold, .int zwl, .int zwr])), (azLe, .inl (cI 0, 10, .inl zle)), (azSh, .inl (cI 0, 10, .inl zsh)), (azS, .inr (3, [.ref azTk, .ref azSr, .int zrolls, .int zfrm])), (azTk, .inl (cI 0, 21, .inl ztk)), (azSr, .inl (cI 0, 11, .inl zsr)), (azSe, .inl (cI 0, 3, .inl zse))] H → va_D A [(azT, .inr (5, [.ref azP, .ref azS, .ref azSe, .int zsto, .int zdro, .int zfou])), (azP, .inr (2, [.ref azLe, .ref azSh, .int ztold, .int zwl, .int zwr])), (azLe, .inl (cI 0, 10, .inl zle)), (azSh, .inl (cI 0, 10, .inl zsh)), (azS, .inr (3, [.ref azTk, .ref azSr, .int zrolls, .int zfrm])), (azTk, .inl (cI 0, 21, .inl ztk)), (azSr, .inl (cI 0, 11, .inl zsr)), (azSe, .inl (cI 0, 3, .inl zse))] → va_S A s.heap H locs → lv_has ls 6 [] → W p l e { frames := 6, cells := 0, slots := 0, locals := 129 } s m args below meth c H locs 0 0 Q (F0 m 218 ls []) := by
    intro H locs ls zsto zdro zfou ztold zwl zwr zle zsh zrolls zfrm ztk zsr zse
    intro hq hP hD hS hl
    refine lv_iconst (v := 0) hx hb dX3_succeeds_218 (by decide) ?_
    exact b_219  _ _ _ zsto zdro zfou ztold zwl zwr zle zsh zrolls zfrm ztk zsr zse (0 : Int32) hq hP hD hS (lv_sub hl [] rfl)
  have b_254 : ∀ (H : Heap) (locs : List Loc) (ls : Array Slot) (zsto : Int32) (zdro : Int32) (zfou : Int32) (ztold : Int32) (zwl : Int32) (zwr : Int32) (zle : kF) (zsh : kF) (zrolls : Int32) (zfrm : Int32) (ztk : kF) (zsr : kF) (zse : kF) (k0 : Int32), fn_X3_succeeds_254 zsto zdro zfou ztold zwl zwr zle zsh zrolls zfrm ztk zsr zse k0 = some o → va_P D vwCl [(azT, .inr (5, [.ref azP, .ref azS, .ref azSe, .int zsto, .int zdro, .int zfou])), (azP, .inr (2, [.ref azLe, .ref azSh, .int ztold, .int zwl, .int zwr])), (azLe, .inl (cI 0, 10, .inl zle)), (azSh, .inl (cI 0, 10, .inl zsh)), (azS, .inr (3, [.ref azTk, .ref azSr, .int zrolls, .int zfrm])), (azTk, .inl (cI 0, 21, .inl ztk)), (azSr, .inl (cI 0, 11, .inl zsr)), (azSe, .inl (cI 0, 3, .inl zse))] H → va_D A [(azT, .inr (5, [.ref azP, .ref azS, .ref azSe, .int zsto, .int zdro, .int zfou])), (azP, .inr (2, [.ref azLe, .ref azSh, .int ztold, .int zwl, .int zwr])), (azLe, .inl (cI 0, 10, .inl zle)), (azSh, .inl (cI 0, 10, .inl zsh)), (azS, .inr (3, [.ref azTk, .ref azSr, .int zrolls, .int zfrm])), (azTk, .inl (cI 0, 21, .inl ztk)), (azSr, .inl (cI 0, 11, .inl zsr)), (azSe, .inl (cI 0, 3, .inl zse))] → va_S A s.heap H locs → lv_has ls 6 [] → W p l e { frames := 6, cells := 0, slots := 0, locals := 129 } s m args below meth c H locs 0 0 Q (F0 m 254 ls [.int k0]) := by
    intro H locs ls zsto zdro zfou ztold zwl zwr zle zsh zrolls zfrm ztk zsr zse k0
    intro hq hP hD hS hl
    obtain ⟨hz, hq⟩ := kite_b hq
    have ho := Option.some.inj hq
    subst ho
    exact hend _ _ _ _ hz hP hS dX3_succeeds_254
  have b_253 : ∀ (H : Heap) (locs : List Loc) (ls : Array Slot) (zsto : Int32) (zdro : Int32) (zfou : Int32) (ztold : Int32) (zwl : Int32) (zwr : Int32) (zle : kF) (zsh : kF) (zrolls : Int32) (zfrm : Int32) (ztk : kF) (zsr : kF) (zse : kF), fn_X3_succeeds_253 zsto zdro zfou ztold zwl zwr zle zsh zrolls zfrm ztk zsr zse = some o → va_P D vwCl [(azT, .inr (5, [.ref azP, .ref azS, .ref azSe, .int zsto, .int zdro, .int zfou])), (azP, .inr (2, [.ref azLe, .ref azSh, .int ztold, .int zwl, .int zwr])), (azLe, .inl (cI 0, 10, .inl zle)), (azSh, .inl (cI 0, 10, .inl zsh)), (azS, .inr (3, [.ref azTk, .ref azSr, .int zrolls, .int zfrm])), (azTk, .inl (cI 0, 21, .inl ztk)), (azSr, .inl (cI 0, 11, .inl zsr)), (azSe, .inl (cI 0, 3, .inl zse))] H → va_D A [(azT, .inr (5, [.ref azP, .ref azS, .ref azSe, .int zsto, .int zdro, .int zfou])), (azP, .inr (2, [.ref azLe, .ref azSh, .int ztold, .int zwl, .int zwr])), (azLe, .inl (cI 0, 10, .inl zle)), (azSh, .inl (cI 0, 10, .inl zsh)), (azS, .inr (3, [.ref azTk, .ref azSr, .int zrolls, .int zfrm])), (azTk, .inl (cI 0, 21, .inl ztk)), (azSr, .inl (cI 0, 11, .inl zsr)), (azSe, .inl (cI 0, 3, .inl zse))] → va_S A s.heap H locs → lv_has ls 6 [] → W p l e { frames := 6, cells := 0, slots := 0, locals := 129 } s m args below meth c H locs 0 0 Q (F0 m 253 ls []) := by
    intro H locs ls zsto zdro zfou ztold zwl zwr zle zsh zrolls zfrm ztk zsr zse
    intro hq hP hD hS hl
    refine lv_iconst (v := 0) hx hb dX3_succeeds_253 (by decide) ?_
    exact b_254  _ _ _ zsto zdro zfou ztold zwl zwr zle zsh zrolls zfrm ztk zsr zse (0 : Int32) hq hP hD hS (lv_sub hl [] rfl)
  have b_282 : ∀ (H : Heap) (locs : List Loc) (ls : Array Slot) (zsto : Int32) (zdro : Int32) (zfou : Int32) (ztold : Int32) (zwl : Int32) (zwr : Int32) (zle : kF) (zsh : kF) (zrolls : Int32) (zfrm : Int32) (ztk : kF) (zsr : kF) (zse : kF) (k0 : Int32), fn_X3_succeeds_282 zsto zdro zfou ztold zwl zwr zle zsh zrolls zfrm ztk zsr zse k0 = some o → va_P D vwCl [(azT, .inr (5, [.ref azP, .ref azS, .ref azSe, .int zsto, .int zdro, .int zfou])), (azP, .inr (2, [.ref azLe, .ref azSh, .int ztold, .int zwl, .int zwr])), (azLe, .inl (cI 0, 10, .inl zle)), (azSh, .inl (cI 0, 10, .inl zsh)), (azS, .inr (3, [.ref azTk, .ref azSr, .int zrolls, .int zfrm])), (azTk, .inl (cI 0, 21, .inl ztk)), (azSr, .inl (cI 0, 11, .inl zsr)), (azSe, .inl (cI 0, 3, .inl zse))] H → va_D A [(azT, .inr (5, [.ref azP, .ref azS, .ref azSe, .int zsto, .int zdro, .int zfou])), (azP, .inr (2, [.ref azLe, .ref azSh, .int ztold, .int zwl, .int zwr])), (azLe, .inl (cI 0, 10, .inl zle)), (azSh, .inl (cI 0, 10, .inl zsh)), (azS, .inr (3, [.ref azTk, .ref azSr, .int zrolls, .int zfrm])), (azTk, .inl (cI 0, 21, .inl ztk)), (azSr, .inl (cI 0, 11, .inl zsr)), (azSe, .inl (cI 0, 3, .inl zse))] → va_S A s.heap H locs → lv_has ls 6 [] → W p l e { frames := 6, cells := 0, slots := 0, locals := 129 } s m args below meth c H locs 0 0 Q (F0 m 282 ls [.int k0]) := by
    intro H locs ls zsto zdro zfou ztold zwl zwr zle zsh zrolls zfrm ztk zsr zse k0
    intro hq hP hD hS hl
    obtain ⟨hz, hq⟩ := kite_b hq
    have ho := Option.some.inj hq
    subst ho
    exact hend _ _ _ _ hz hP hS dX3_succeeds_282
  have b_281 : ∀ (H : Heap) (locs : List Loc) (ls : Array Slot) (zsto : Int32) (zdro : Int32) (zfou : Int32) (ztold : Int32) (zwl : Int32) (zwr : Int32) (zle : kF) (zsh : kF) (zrolls : Int32) (zfrm : Int32) (ztk : kF) (zsr : kF) (zse : kF), fn_X3_succeeds_281 zsto zdro zfou ztold zwl zwr zle zsh zrolls zfrm ztk zsr zse = some o → va_P D vwCl [(azT, .inr (5, [.ref azP, .ref azS, .ref azSe, .int zsto, .int zdro, .int zfou])), (azP, .inr (2, [.ref azLe, .ref azSh, .int ztold, .int zwl, .int zwr])), (azLe, .inl (cI 0, 10, .inl zle)), (azSh, .inl (cI 0, 10, .inl zsh)), (azS, .inr (3, [.ref azTk, .ref azSr, .int zrolls, .int zfrm])), (azTk, .inl (cI 0, 21, .inl ztk)), (azSr, .inl (cI 0, 11, .inl zsr)), (azSe, .inl (cI 0, 3, .inl zse))] H → va_D A [(azT, .inr (5, [.ref azP, .ref azS, .ref azSe, .int zsto, .int zdro, .int zfou])), (azP, .inr (2, [.ref azLe, .ref azSh, .int ztold, .int zwl, .int zwr])), (azLe, .inl (cI 0, 10, .inl zle)), (azSh, .inl (cI 0, 10, .inl zsh)), (azS, .inr (3, [.ref azTk, .ref azSr, .int zrolls, .int zfrm])), (azTk, .inl (cI 0, 21, .inl ztk)), (azSr, .inl (cI 0, 11, .inl zsr)), (azSe, .inl (cI 0, 3, .inl zse))] → va_S A s.heap H locs → lv_has ls 6 [] → W p l e { frames := 6, cells := 0, slots := 0, locals := 129 } s m args below meth c H locs 0 0 Q (F0 m 281 ls []) := by
    intro H locs ls zsto zdro zfou ztold zwl zwr zle zsh zrolls zfrm ztk zsr zse
    intro hq hP hD hS hl
    refine lv_iconst (v := 0) hx hb dX3_succeeds_281 (by decide) ?_
    exact b_282  _ _ _ zsto zdro zfou ztold zwl zwr zle zsh zrolls zfrm ztk zsr zse (0 : Int32) hq hP hD hS (lv_sub hl [] rfl)
  have b_315 : ∀ (H : Heap) (locs : List Loc) (ls : Array Slot) (zsto : Int32) (zdro : Int32) (zfou : Int32) (ztold : Int32) (zwl : Int32) (zwr : Int32) (zle : kF) (zsh : kF) (zrolls : Int32) (zfrm : Int32) (ztk : kF) (zsr : kF) (zse : kF) (k0 : Int32), fn_X3_succeeds_315 zsto zdro zfou ztold zwl zwr zle zsh zrolls zfrm ztk zsr zse k0 = some o → va_P D vwCl [(azT, .inr (5, [.ref azP, .ref azS, .ref azSe, .int zsto, .int zdro, .int zfou])), (azP, .inr (2, [.ref azLe, .ref azSh, .int ztold, .int zwl, .int zwr])), (azLe, .inl (cI 0, 10, .inl zle)), (azSh, .inl (cI 0, 10, .inl zsh)), (azS, .inr (3, [.ref azTk, .ref azSr, .int zrolls, .int zfrm])), (azTk, .inl (cI 0, 21, .inl ztk)), (azSr, .inl (cI 0, 11, .inl zsr)), (azSe, .inl (cI 0, 3, .inl zse))] H → va_D A [(azT, .inr (5, [.ref azP, .ref azS, .ref azSe, .int zsto, .int zdro, .int zfou])), (azP, .inr (2, [.ref azLe, .ref azSh, .int ztold, .int zwl, .int zwr])), (azLe, .inl (cI 0, 10, .inl zle)), (azSh, .inl (cI 0, 10, .inl zsh)), (azS, .inr (3, [.ref azTk, .ref azSr, .int zrolls, .int zfrm])), (azTk, .inl (cI 0, 21, .inl ztk)), (azSr, .inl (cI 0, 11, .inl zsr)), (azSe, .inl (cI 0, 3, .inl zse))] → va_S A s.heap H locs → lv_has ls 6 [] → W p l e { frames := 6, cells := 0, slots := 0, locals := 129 } s m args below meth c H locs 0 0 Q (F0 m 315 ls [.int k0]) := by
    intro H locs ls zsto zdro zfou ztold zwl zwr zle zsh zrolls zfrm ztk zsr zse k0
    intro hq hP hD hS hl
    obtain ⟨hz, hq⟩ := kite_b hq
    have ho := Option.some.inj hq
    subst ho
    exact hend _ _ _ _ hz hP hS dX3_succeeds_315
  have b_314 : ∀ (H : Heap) (locs : List Loc) (ls : Array Slot) (zsto : Int32) (zdro : Int32) (zfou : Int32) (ztold : Int32) (zwl : Int32) (zwr : Int32) (zle : kF) (zsh : kF) (zrolls : Int32) (zfrm : Int32) (ztk : kF) (zsr : kF) (zse : kF), fn_X3_succeeds_314 zsto zdro zfou ztold zwl zwr zle zsh zrolls zfrm ztk zsr zse = some o → va_P D vwCl [(azT, .inr (5, [.ref azP, .ref azS, .ref azSe, .int zsto, .int zdro, .int zfou])), (azP, .inr (2, [.ref azLe, .ref azSh, .int ztold, .int zwl, .int zwr])), (azLe, .inl (cI 0, 10, .inl zle)), (azSh, .inl (cI 0, 10, .inl zsh)), (azS, .inr (3, [.ref azTk, .ref azSr, .int zrolls, .int zfrm])), (azTk, .inl (cI 0, 21, .inl ztk)), (azSr, .inl (cI 0, 11, .inl zsr)), (azSe, .inl (cI 0, 3, .inl zse))] H → va_D A [(azT, .inr (5, [.ref azP, .ref azS, .ref azSe, .int zsto, .int zdro, .int zfou])), (azP, .inr (2, [.ref azLe, .ref azSh, .int ztold, .int zwl, .int zwr])), (azLe, .inl (cI 0, 10, .inl zle)), (azSh, .inl (cI 0, 10, .inl zsh)), (azS, .inr (3, [.ref azTk, .ref azSr, .int zrolls, .int zfrm])), (azTk, .inl (cI 0, 21, .inl ztk)), (azSr, .inl (cI 0, 11, .inl zsr)), (azSe, .inl (cI 0, 3, .inl zse))] → va_S A s.heap H locs → lv_has ls 6 [] → W p l e { frames := 6, cells := 0, slots := 0, locals := 129 } s m args below meth c H locs 0 0 Q (F0 m 314 ls []) := by
    intro H locs ls zsto zdro zfou ztold zwl zwr zle zsh zrolls zfrm ztk zsr zse
    intro hq hP hD hS hl
    refine lv_iconst (v := 0) hx hb dX3_succeeds_314 (by decide) ?_
    exact b_315  _ _ _ zsto zdro zfou ztold zwl zwr zle zsh zrolls zfrm ztk zsr zse (0 : Int32) hq hP hD hS (lv_sub hl [] rfl)
  have b_343 : ∀ (H : Heap) (locs : List Loc) (ls : Array Slot) (zsto : Int32) (zdro : Int32) (zfou : Int32) (ztold : Int32) (zwl : Int32) (zwr : Int32) (zle : kF) (zsh : kF) (zrolls : Int32) (zfrm : Int32) (ztk : kF) (zsr : kF) (zse : kF) (k0 : Int32), fn_X3_succeeds_343 zsto zdro zfou ztold zwl zwr zle zsh zrolls zfrm ztk zsr zse k0 = some o → va_P D vwCl [(azT, .inr (5, [.ref azP, .ref azS, .ref azSe, .int zsto, .int zdro, .int zfou])), (azP, .inr (2, [.ref azLe, .ref azSh, .int ztold, .int zwl, .int zwr])), (azLe, .inl (cI 0, 10, .inl zle)), (azSh, .inl (cI 0, 10, .inl zsh)), (azS, .inr (3, [.ref azTk, .ref azSr, .int zrolls, .int zfrm])), (azTk, .inl (cI 0, 21, .inl ztk)), (azSr, .inl (cI 0, 11, .inl zsr)), (azSe, .inl (cI 0, 3, .inl zse))] H → va_D A [(azT, .inr (5, [.ref azP, .ref azS, .ref azSe, .int zsto, .int zdro, .int zfou])), (azP, .inr (2, [.ref azLe, .ref azSh, .int ztold, .int zwl, .int zwr])), (azLe, .inl (cI 0, 10, .inl zle)), (azSh, .inl (cI 0, 10, .inl zsh)), (azS, .inr (3, [.ref azTk, .ref azSr, .int zrolls, .int zfrm])), (azTk, .inl (cI 0, 21, .inl ztk)), (azSr, .inl (cI 0, 11, .inl zsr)), (azSe, .inl (cI 0, 3, .inl zse))] → va_S A s.heap H locs → lv_has ls 6 [] → W p l e { frames := 6, cells := 0, slots := 0, locals := 129 } s m args below meth c H locs 0 0 Q (F0 m 343 ls [.int k0]) := by
    intro H locs ls zsto zdro zfou ztold zwl zwr zle zsh zrolls zfrm ztk zsr zse k0
    intro hq hP hD hS hl
    obtain ⟨hz, hq⟩ := kite_b hq
    have ho := Option.some.inj hq
    subst ho
    exact hend _ _ _ _ hz hP hS dX3_succeeds_343
  have b_342 : ∀ (H : Heap) (locs : List Loc) (ls : Array Slot) (zsto : Int32) (zdro : Int32) (zfou : Int32) (ztold : Int32) (zwl : Int32) (zwr : Int32) (zle : kF) (zsh : kF) (zrolls : Int32) (zfrm : Int32) (ztk : kF) (zsr : kF) (zse : kF), fn_X3_succeeds_342 zsto zdro zfou ztold zwl zwr zle zsh zrolls zfrm ztk zsr zse = some o → va_P D vwCl [(azT, .inr (5, [.ref azP, .ref azS, .ref azSe, .int zsto, .int zdro, .int zfou])), (azP, .inr (2, [.ref azLe, .ref azSh, .int ztold, .int zwl, .int zwr])), (azLe, .inl (cI 0, 10, .inl zle)), (azSh, .inl (cI 0, 10, .inl zsh)), (azS, .inr (3, [.ref azTk, .ref azSr, .int zrolls, .int zfrm])), (azTk, .inl (cI 0, 21, .inl ztk)), (azSr, .inl (cI 0, 11, .inl zsr)), (azSe, .inl (cI 0, 3, .inl zse))] H → va_D A [(azT, .inr (5, [.ref azP, .ref azS, .ref azSe, .int zsto, .int zdro, .int zfou])), (azP, .inr (2, [.ref azLe, .ref azSh, .int ztold, .int zwl, .int zwr])), (azLe, .inl (cI 0, 10, .inl zle)), (azSh, .inl (cI 0, 10, .inl zsh)), (azS, .inr (3, [.ref azTk, .ref azSr, .int zrolls, .int zfrm])), (azTk, .inl (cI 0, 21, .inl ztk)), (azSr, .inl (cI 0, 11, .inl zsr)), (azSe, .inl (cI 0, 3, .inl zse))] → va_S A s.heap H locs → lv_has ls 6 [] → W p l e { frames := 6, cells := 0, slots := 0, locals := 129 } s m args below meth c H locs 0 0 Q (F0 m 342 ls []) := by
    intro H locs ls zsto zdro zfou ztold zwl zwr zle zsh zrolls zfrm ztk zsr zse
    intro hq hP hD hS hl
    refine lv_iconst (v := 0) hx hb dX3_succeeds_342 (by decide) ?_
    exact b_343  _ _ _ zsto zdro zfou ztold zwl zwr zle zsh zrolls zfrm ztk zsr zse (0 : Int32) hq hP hD hS (lv_sub hl [] rfl)
  refine lv_iload_n hx hb dX3_succeeds_0 rfl (lv_at hl 1 rfl) ?_
  refine lv_sipush (v := 1000) hx hb dX3_succeeds_1 (by decide) ?_
  refine lv_idiv hx hb dX3_succeeds_4 (by decide) ?_
  refine lv_bipush (v := 10) hx hb dX3_succeeds_5 (by decide) ?_
  refine lv_irem hx hb dX3_succeeds_7 (by decide) ?_
  refine lv_istore_n (lv' := [(2, .int ((x1 / (1000 : Int32)) - (x1 / (1000 : Int32)) / (10 : Int32) * (10 : Int32))), (0, .ref azT), (1, .int x1)]) hx hb dX3_succeeds_8 rfl hl (by decide) rfl (fun ls hl => ?_)
  refine lv_iload_n hx hb dX3_succeeds_9 rfl (lv_at hl 2 rfl) ?_
  refine lv_bipush (v := 100) hx hb dX3_succeeds_10 (by decide) ?_
  refine lv_idiv hx hb dX3_succeeds_12 (by decide) ?_
  refine lv_bipush (v := 10) hx hb dX3_succeeds_13 (by decide) ?_
  refine lv_irem hx hb dX3_succeeds_15 (by decide) ?_
  refine lv_istore_n (lv' := [(3, .int ((x1 / (100 : Int32)) - (x1 / (100 : Int32)) / (10 : Int32) * (10 : Int32))), (2, .int ((x1 / (1000 : Int32)) - (x1 / (1000 : Int32)) / (10 : Int32) * (10 : Int32))), (0, .ref azT), (1, .int x1)]) hx hb dX3_succeeds_16 rfl hl (by decide) rfl (fun ls hl => ?_)
  refine lv_iload_n hx hb dX3_succeeds_17 rfl (lv_at hl 3 rfl) ?_
  refine lv_bipush (v := 10) hx hb dX3_succeeds_18 (by decide) ?_
  refine lv_idiv hx hb dX3_succeeds_20 (by decide) ?_
  refine lv_bipush (v := 10) hx hb dX3_succeeds_21 (by decide) ?_
  refine lv_irem hx hb dX3_succeeds_23 (by decide) ?_
  refine lv_istore (lv' := [(4, .int ((x1 / (10 : Int32)) - (x1 / (10 : Int32)) / (10 : Int32) * (10 : Int32))), (3, .int ((x1 / (100 : Int32)) - (x1 / (100 : Int32)) / (10 : Int32) * (10 : Int32))), (2, .int ((x1 / (1000 : Int32)) - (x1 / (1000 : Int32)) / (10 : Int32) * (10 : Int32))), (0, .ref azT), (1, .int x1)]) hx hb dX3_succeeds_24 hl (by decide) rfl (fun ls hl => ?_)
  refine lv_iload_n hx hb dX3_succeeds_26 rfl (lv_at hl 4 rfl) ?_
  refine lv_bipush (v := 10) hx hb dX3_succeeds_27 (by decide) ?_
  refine lv_irem hx hb dX3_succeeds_29 (by decide) ?_
  refine lv_istore (lv' := [(5, .int (x1 - x1 / (10 : Int32) * (10 : Int32))), (4, .int ((x1 / (10 : Int32)) - (x1 / (10 : Int32)) / (10 : Int32) * (10 : Int32))), (3, .int ((x1 / (100 : Int32)) - (x1 / (100 : Int32)) / (10 : Int32) * (10 : Int32))), (2, .int ((x1 / (1000 : Int32)) - (x1 / (1000 : Int32)) / (10 : Int32) * (10 : Int32))), (0, .ref azT), (1, .int x1)]) hx hb dX3_succeeds_30 hl (by decide) rfl (fun ls hl => ?_)
  refine lv_iload_n hx hb dX3_succeeds_32 rfl (lv_at hl 5 rfl) ?_
  refine lv_sipush (v := 10000) hx hb dX3_succeeds_33 (by decide) ?_
  refine lv_idiv hx hb dX3_succeeds_36 (by decide) ?_
  by_cases c0 : (x1 / (10000 : Int32)) = 1
  · have hq := kite_t c0 hq
    refine lv_tableIn (off := 51) (tgt := 88) hx hb dX3_succeeds_37 (by rw [c0]; decide) (by rw [c0]; decide) (by rw [c0]; decide +kernel) (by decide) ?_
    refine lv_iload hx hb dX3_succeeds_88 (lv_at hl 0 rfl) ?_
    refine lv_if_ne (tgt := 117) hx hb dX3_succeeds_90 (by decide) (fun c9 => ?_) (fun c9 => ?_)
    · have hq := kite_f c9 hq
      exact b_117  _ _ _ zsto zdro zfou ztold zwl zwr zle zsh zrolls zfrm ztk zsr zse hq hP hD hS (lv_sub hl [] rfl)
    · have hq := kite_t c9 hq
      refine lv_aload_n hx hb dX3_succeeds_93 rfl (lv_at hl 4 rfl) ?_
      refine lv_bipush (v := 10) hx hb dX3_succeeds_94 (by decide) ?_
      refine lv_iload_n hx hb dX3_succeeds_96 rfl (lv_at hl 3 rfl) ?_
      refine lv_imul hx hb dX3_succeeds_97 ?_
      refine lv_iload_n hx hb dX3_succeeds_98 rfl (lv_at hl 2 rfl) ?_
      refine lv_iadd hx hb dX3_succeeds_99 ?_
      refine lv_iload hx hb dX3_succeeds_100 (lv_at hl 1 rfl) ?_
      refine lv_iconst (v := 2) hx hb dX3_succeeds_102 (by decide) ?_
      refine lv_isub hx hb dX3_succeeds_103 ?_
      refine lv_bipush (v := 30) hx hb dX3_succeeds_104 (by decide) ?_
      refine lv_iconst (v := 0) hx hb dX3_succeeds_106 (by decide) ?_
      obtain ⟨o107, ho107, hq⟩ := kbind hq
      refine kc_Vi (av := [.int (((10 : Int32) * ((x1 / (1000 : Int32)) - (x1 / (1000 : Int32)) / (10 : Int32) * (10 : Int32))) + ((x1 / (100 : Int32)) - (x1 / (100 : Int32)) / (10 : Int32) * (10 : Int32))), .int (((x1 / (10 : Int32)) - (x1 / (10 : Int32)) / (10 : Int32) * (10 : Int32)) - (2 : Int32)), .int (30 : Int32), .int (0 : Int32)]) (rest := []) hF hK hG hA (mk_X6_tryRoll l D cI azT azP azS azSe azLe azSh azTk azSr s.heap.size zsto zdro zfou ztold zwl zwr zle zsh zrolls zfrm ztk zsr zse (((10 : Int32) * ((x1 / (1000 : Int32)) - (x1 / (1000 : Int32)) / (10 : Int32) * (10 : Int32))) + ((x1 / (100 : Int32)) - (x1 / (100 : Int32)) / (10 : Int32) * (10 : Int32))) (((x1 / (10 : Int32)) - (x1 / (10 : Int32)) / (10 : Int32) * (10 : Int32)) - (2 : Int32)) (30 : Int32) (0 : Int32) o107 ho107) (cwV 4 hts gX3_succeeds_X6_tryRoll rfl rfl rfl (by decide +kernel) ⟨Nat.le_of_ble_eq_true rfl, Nat.le_of_ble_eq_true rfl⟩) hP hD hS [0, 1, 2, 3, 4, 5, 6, 7] (by decide) rfl rfl 0 rfl rfl rfl hl.1 rfl (Nat.le_of_ble_eq_true rfl) ⟨Nat.zero_le _, Nat.zero_le _⟩ dX3_succeeds_107 (fun H locs hP hD hS => ?_)
      have hP : va_P D vwCl [(azT, .inr (5, [.ref azP, .ref azS, .ref azSe, .int o107.2.1, .int o107.2.2.1, .int o107.2.2.2.1])), (azP, .inr (2, [.ref azLe, .ref azSh, .int o107.2.2.2.2.1, .int o107.2.2.2.2.2.1, .int o107.2.2.2.2.2.2.1])), (azLe, .inl (cI 0, 10, .inl o107.2.2.2.2.2.2.2.1)), (azSh, .inl (cI 0, 10, .inl o107.2.2.2.2.2.2.2.2.1)), (azS, .inr (3, [.ref azTk, .ref azSr, .int o107.2.2.2.2.2.2.2.2.2.1, .int o107.2.2.2.2.2.2.2.2.2.2.1])), (azTk, .inl (cI 0, 21, .inl o107.2.2.2.2.2.2.2.2.2.2.2.1)), (azSr, .inl (cI 0, 11, .inl o107.2.2.2.2.2.2.2.2.2.2.2.2)), (azSe, .inl (cI 0, 3, .inl zse))] H := hP
      have hD : va_D A [(azT, .inr (5, [.ref azP, .ref azS, .ref azSe, .int o107.2.1, .int o107.2.2.1, .int o107.2.2.2.1])), (azP, .inr (2, [.ref azLe, .ref azSh, .int o107.2.2.2.2.1, .int o107.2.2.2.2.2.1, .int o107.2.2.2.2.2.2.1])), (azLe, .inl (cI 0, 10, .inl o107.2.2.2.2.2.2.2.1)), (azSh, .inl (cI 0, 10, .inl o107.2.2.2.2.2.2.2.2.1)), (azS, .inr (3, [.ref azTk, .ref azSr, .int o107.2.2.2.2.2.2.2.2.2.1, .int o107.2.2.2.2.2.2.2.2.2.2.1])), (azTk, .inl (cI 0, 21, .inl o107.2.2.2.2.2.2.2.2.2.2.2.1)), (azSr, .inl (cI 0, 11, .inl o107.2.2.2.2.2.2.2.2.2.2.2.2)), (azSe, .inl (cI 0, 3, .inl zse))] := hD
      refine lv_if_eq (tgt := 117) hx hb dX3_succeeds_110 (by decide) (fun c9 => ?_) (fun c9 => ?_)
      · have hq := kite_t c9 hq
        exact b_117  _ _ _ o107.2.1 o107.2.2.1 o107.2.2.2.1 o107.2.2.2.2.1 o107.2.2.2.2.2.1 o107.2.2.2.2.2.2.1 o107.2.2.2.2.2.2.2.1 o107.2.2.2.2.2.2.2.2.1 o107.2.2.2.2.2.2.2.2.2.1 o107.2.2.2.2.2.2.2.2.2.2.1 o107.2.2.2.2.2.2.2.2.2.2.2.1 o107.2.2.2.2.2.2.2.2.2.2.2.2 zse hq hP hD hS (lv_sub hl [] rfl)
      · have hq := kite_f c9 hq
        refine lv_iconst (v := 1) hx hb dX3_succeeds_113 (by decide) ?_
        refine lv_goto (tgt := 118) hx hb dX3_succeeds_114 (by decide) ?_
        exact b_118  _ _ _ o107.2.1 o107.2.2.1 o107.2.2.2.1 o107.2.2.2.2.1 o107.2.2.2.2.2.1 o107.2.2.2.2.2.2.1 o107.2.2.2.2.2.2.2.1 o107.2.2.2.2.2.2.2.2.1 o107.2.2.2.2.2.2.2.2.2.1 o107.2.2.2.2.2.2.2.2.2.2.1 o107.2.2.2.2.2.2.2.2.2.2.2.1 o107.2.2.2.2.2.2.2.2.2.2.2.2 zse (1 : Int32) hq hP hD hS (lv_sub hl [] rfl)
  have hq := kite_f c0 hq
  by_cases c1 : (x1 / (10000 : Int32)) = 2
  · have hq := kite_t c1 hq
    refine lv_tableIn (off := 82) (tgt := 119) hx hb dX3_succeeds_37 (by rw [c1]; decide) (by rw [c1]; decide) (by rw [c1]; decide +kernel) (by decide) ?_
    refine lv_iload hx hb dX3_succeeds_119 (lv_at hl 0 rfl) ?_
    refine lv_if_ne (tgt := 148) hx hb dX3_succeeds_121 (by decide) (fun c9 => ?_) (fun c9 => ?_)
    · have hq := kite_f c9 hq
      exact b_148  _ _ _ zsto zdro zfou ztold zwl zwr zle zsh zrolls zfrm ztk zsr zse hq hP hD hS (lv_sub hl [] rfl)
    · have hq := kite_t c9 hq
      refine lv_aload_n hx hb dX3_succeeds_124 rfl (lv_at hl 4 rfl) ?_
      refine lv_bipush (v := 10) hx hb dX3_succeeds_125 (by decide) ?_
      refine lv_iload_n hx hb dX3_succeeds_127 rfl (lv_at hl 3 rfl) ?_
      refine lv_imul hx hb dX3_succeeds_128 ?_
      refine lv_iload_n hx hb dX3_succeeds_129 rfl (lv_at hl 2 rfl) ?_
      refine lv_iadd hx hb dX3_succeeds_130 ?_
      refine lv_iload hx hb dX3_succeeds_131 (lv_at hl 1 rfl) ?_
      refine lv_iconst (v := 2) hx hb dX3_succeeds_133 (by decide) ?_
      refine lv_isub hx hb dX3_succeeds_134 ?_
      refine lv_bipush (v := 30) hx hb dX3_succeeds_135 (by decide) ?_
      refine lv_iconst (v := 1) hx hb dX3_succeeds_137 (by decide) ?_
      obtain ⟨o138, ho138, hq⟩ := kbind hq
      refine kc_Vi (av := [.int (((10 : Int32) * ((x1 / (1000 : Int32)) - (x1 / (1000 : Int32)) / (10 : Int32) * (10 : Int32))) + ((x1 / (100 : Int32)) - (x1 / (100 : Int32)) / (10 : Int32) * (10 : Int32))), .int (((x1 / (10 : Int32)) - (x1 / (10 : Int32)) / (10 : Int32) * (10 : Int32)) - (2 : Int32)), .int (30 : Int32), .int (1 : Int32)]) (rest := []) hF hK hG hA (mk_X6_tryRoll l D cI azT azP azS azSe azLe azSh azTk azSr s.heap.size zsto zdro zfou ztold zwl zwr zle zsh zrolls zfrm ztk zsr zse (((10 : Int32) * ((x1 / (1000 : Int32)) - (x1 / (1000 : Int32)) / (10 : Int32) * (10 : Int32))) + ((x1 / (100 : Int32)) - (x1 / (100 : Int32)) / (10 : Int32) * (10 : Int32))) (((x1 / (10 : Int32)) - (x1 / (10 : Int32)) / (10 : Int32) * (10 : Int32)) - (2 : Int32)) (30 : Int32) (1 : Int32) o138 ho138) (cwV 4 hts gX3_succeeds_X6_tryRoll rfl rfl rfl (by decide +kernel) ⟨Nat.le_of_ble_eq_true rfl, Nat.le_of_ble_eq_true rfl⟩) hP hD hS [0, 1, 2, 3, 4, 5, 6, 7] (by decide) rfl rfl 0 rfl rfl rfl hl.1 rfl (Nat.le_of_ble_eq_true rfl) ⟨Nat.zero_le _, Nat.zero_le _⟩ dX3_succeeds_138 (fun H locs hP hD hS => ?_)
      have hP : va_P D vwCl [(azT, .inr (5, [.ref azP, .ref azS, .ref azSe, .int o138.2.1, .int o138.2.2.1, .int o138.2.2.2.1])), (azP, .inr (2, [.ref azLe, .ref azSh, .int o138.2.2.2.2.1, .int o138.2.2.2.2.2.1, .int o138.2.2.2.2.2.2.1])), (azLe, .inl (cI 0, 10, .inl o138.2.2.2.2.2.2.2.1)), (azSh, .inl (cI 0, 10, .inl o138.2.2.2.2.2.2.2.2.1)), (azS, .inr (3, [.ref azTk, .ref azSr, .int o138.2.2.2.2.2.2.2.2.2.1, .int o138.2.2.2.2.2.2.2.2.2.2.1])), (azTk, .inl (cI 0, 21, .inl o138.2.2.2.2.2.2.2.2.2.2.2.1)), (azSr, .inl (cI 0, 11, .inl o138.2.2.2.2.2.2.2.2.2.2.2.2)), (azSe, .inl (cI 0, 3, .inl zse))] H := hP
      have hD : va_D A [(azT, .inr (5, [.ref azP, .ref azS, .ref azSe, .int o138.2.1, .int o138.2.2.1, .int o138.2.2.2.1])), (azP, .inr (2, [.ref azLe, .ref azSh, .int o138.2.2.2.2.1, .int o138.2.2.2.2.2.1, .int o138.2.2.2.2.2.2.1])), (azLe, .inl (cI 0, 10, .inl o138.2.2.2.2.2.2.2.1)), (azSh, .inl (cI 0, 10, .inl o138.2.2.2.2.2.2.2.2.1)), (azS, .inr (3, [.ref azTk, .ref azSr, .int o138.2.2.2.2.2.2.2.2.2.1, .int o138.2.2.2.2.2.2.2.2.2.2.1])), (azTk, .inl (cI 0, 21, .inl o138.2.2.2.2.2.2.2.2.2.2.2.1)), (azSr, .inl (cI 0, 11, .inl o138.2.2.2.2.2.2.2.2.2.2.2.2)), (azSe, .inl (cI 0, 3, .inl zse))] := hD
      refine lv_if_eq (tgt := 148) hx hb dX3_succeeds_141 (by decide) (fun c9 => ?_) (fun c9 => ?_)
      · have hq := kite_t c9 hq
        exact b_148  _ _ _ o138.2.1 o138.2.2.1 o138.2.2.2.1 o138.2.2.2.2.1 o138.2.2.2.2.2.1 o138.2.2.2.2.2.2.1 o138.2.2.2.2.2.2.2.1 o138.2.2.2.2.2.2.2.2.1 o138.2.2.2.2.2.2.2.2.2.1 o138.2.2.2.2.2.2.2.2.2.2.1 o138.2.2.2.2.2.2.2.2.2.2.2.1 o138.2.2.2.2.2.2.2.2.2.2.2.2 zse hq hP hD hS (lv_sub hl [] rfl)
      · have hq := kite_f c9 hq
        refine lv_iconst (v := 1) hx hb dX3_succeeds_144 (by decide) ?_
        refine lv_goto (tgt := 149) hx hb dX3_succeeds_145 (by decide) ?_
        exact b_149  _ _ _ o138.2.1 o138.2.2.1 o138.2.2.2.1 o138.2.2.2.2.1 o138.2.2.2.2.2.1 o138.2.2.2.2.2.2.1 o138.2.2.2.2.2.2.2.1 o138.2.2.2.2.2.2.2.2.1 o138.2.2.2.2.2.2.2.2.2.1 o138.2.2.2.2.2.2.2.2.2.2.1 o138.2.2.2.2.2.2.2.2.2.2.2.1 o138.2.2.2.2.2.2.2.2.2.2.2.2 zse (1 : Int32) hq hP hD hS (lv_sub hl [] rfl)
  have hq := kite_f c1 hq
  by_cases c2 : (x1 / (10000 : Int32)) = 3
  · have hq := kite_t c2 hq
    refine lv_tableIn (off := 113) (tgt := 150) hx hb dX3_succeeds_37 (by rw [c2]; decide) (by rw [c2]; decide) (by rw [c2]; decide +kernel) (by decide) ?_
    refine lv_iload hx hb dX3_succeeds_150 (lv_at hl 1 rfl) ?_
    refine lv_if_ne (tgt := 173) hx hb dX3_succeeds_152 (by decide) (fun c9 => ?_) (fun c9 => ?_)
    · have hq := kite_f c9 hq
      exact b_173  _ _ _ zsto zdro zfou ztold zwl zwr zle zsh zrolls zfrm ztk zsr zse hq hP hD hS (lv_sub hl [] rfl)
    · have hq := kite_t c9 hq
      refine lv_iload hx hb dX3_succeeds_155 (lv_at hl 0 rfl) ?_
      refine lv_if_ne (tgt := 173) hx hb dX3_succeeds_157 (by decide) (fun c9 => ?_) (fun c9 => ?_)
      · have hq := kite_f c9 hq
        exact b_173  _ _ _ zsto zdro zfou ztold zwl zwr zle zsh zrolls zfrm ztk zsr zse hq hP hD hS (lv_sub hl [] rfl)
      · have hq := kite_t c9 hq
        refine lv_aload_n hx hb dX3_succeeds_160 rfl (lv_at hl 4 rfl) ?_
        refine lv_iload_n hx hb dX3_succeeds_161 rfl (lv_at hl 3 rfl) ?_
        refine lv_iload_n hx hb dX3_succeeds_162 rfl (lv_at hl 2 rfl) ?_
        obtain ⟨o163, ho163, hq⟩ := kbind hq
        refine kc_Vi (av := [.int ((x1 / (1000 : Int32)) - (x1 / (1000 : Int32)) / (10 : Int32) * (10 : Int32)), .int ((x1 / (100 : Int32)) - (x1 / (100 : Int32)) / (10 : Int32) * (10 : Int32))]) (rest := []) hF hK hG hA (mk_X6_tryTouch l D cI azT azP azS azSe azLe azSh s.heap.size zsto zdro zfou ztold zwl zwr zle ((x1 / (1000 : Int32)) - (x1 / (1000 : Int32)) / (10 : Int32) * (10 : Int32)) ((x1 / (100 : Int32)) - (x1 / (100 : Int32)) / (10 : Int32) * (10 : Int32)) o163 ho163) (cwV 2 hts gX3_succeeds_X6_tryTouch rfl rfl rfl (by decide +kernel) ⟨Nat.le_of_ble_eq_true rfl, Nat.le_of_ble_eq_true rfl⟩) hP hD hS [0, 1, 2] (by decide) rfl rfl 0 rfl rfl rfl hl.1 rfl (Nat.le_of_ble_eq_true rfl) ⟨Nat.zero_le _, Nat.zero_le _⟩ dX3_succeeds_163 (fun H locs hP hD hS => ?_)
        have hP : va_P D vwCl [(azT, .inr (5, [.ref azP, .ref azS, .ref azSe, .int zsto, .int zdro, .int zfou])), (azP, .inr (2, [.ref azLe, .ref azSh, .int ztold, .int zwl, .int zwr])), (azLe, .inl (cI 0, 10, .inl o163.2)), (azSh, .inl (cI 0, 10, .inl zsh)), (azS, .inr (3, [.ref azTk, .ref azSr, .int zrolls, .int zfrm])), (azTk, .inl (cI 0, 21, .inl ztk)), (azSr, .inl (cI 0, 11, .inl zsr)), (azSe, .inl (cI 0, 3, .inl zse))] H := hP
        have hD : va_D A [(azT, .inr (5, [.ref azP, .ref azS, .ref azSe, .int zsto, .int zdro, .int zfou])), (azP, .inr (2, [.ref azLe, .ref azSh, .int ztold, .int zwl, .int zwr])), (azLe, .inl (cI 0, 10, .inl o163.2)), (azSh, .inl (cI 0, 10, .inl zsh)), (azS, .inr (3, [.ref azTk, .ref azSr, .int zrolls, .int zfrm])), (azTk, .inl (cI 0, 21, .inl ztk)), (azSr, .inl (cI 0, 11, .inl zsr)), (azSe, .inl (cI 0, 3, .inl zse))] := hD
        refine lv_if_eq (tgt := 173) hx hb dX3_succeeds_166 (by decide) (fun c9 => ?_) (fun c9 => ?_)
        · have hq := kite_t c9 hq
          exact b_173  _ _ _ zsto zdro zfou ztold zwl zwr o163.2 zsh zrolls zfrm ztk zsr zse hq hP hD hS (lv_sub hl [] rfl)
        · have hq := kite_f c9 hq
          refine lv_iconst (v := 1) hx hb dX3_succeeds_169 (by decide) ?_
          refine lv_goto (tgt := 174) hx hb dX3_succeeds_170 (by decide) ?_
          exact b_174  _ _ _ zsto zdro zfou ztold zwl zwr o163.2 zsh zrolls zfrm ztk zsr zse (1 : Int32) hq hP hD hS (lv_sub hl [] rfl)
  have hq := kite_f c2 hq
  by_cases c3 : (x1 / (10000 : Int32)) = 4
  · have hq := kite_t c3 hq
    refine lv_tableIn (off := 138) (tgt := 175) hx hb dX3_succeeds_37 (by rw [c3]; decide) (by rw [c3]; decide) (by rw [c3]; decide +kernel) (by decide) ?_
    refine lv_iload hx hb dX3_succeeds_175 (lv_at hl 0 rfl) ?_
    refine lv_if_ne (tgt := 199) hx hb dX3_succeeds_177 (by decide) (fun c9 => ?_) (fun c9 => ?_)
    · have hq := kite_f c9 hq
      exact b_199  _ _ _ zsto zdro zfou ztold zwl zwr zle zsh zrolls zfrm ztk zsr zse hq hP hD hS (lv_sub hl [] rfl)
    · have hq := kite_t c9 hq
      refine lv_aload_n hx hb dX3_succeeds_180 rfl (lv_at hl 4 rfl) ?_
      refine lv_iload_n hx hb dX3_succeeds_181 rfl (lv_at hl 3 rfl) ?_
      refine lv_bipush (v := 10) hx hb dX3_succeeds_182 (by decide) ?_
      refine lv_iload_n hx hb dX3_succeeds_184 rfl (lv_at hl 2 rfl) ?_
      refine lv_imul hx hb dX3_succeeds_185 ?_
      refine lv_iload hx hb dX3_succeeds_186 (lv_at hl 1 rfl) ?_
      refine lv_iadd hx hb dX3_succeeds_188 ?_
      obtain ⟨o189, ho189, hq⟩ := kbind hq
      refine kc_Vi (av := [.int ((x1 / (1000 : Int32)) - (x1 / (1000 : Int32)) / (10 : Int32) * (10 : Int32)), .int (((10 : Int32) * ((x1 / (100 : Int32)) - (x1 / (100 : Int32)) / (10 : Int32) * (10 : Int32))) + ((x1 / (10 : Int32)) - (x1 / (10 : Int32)) / (10 : Int32) * (10 : Int32)))]) (rest := []) hF hK hG hA (mk_X6_trySet l D cI azT azP azS azSe s.heap.size zsto zdro zfou zse ((x1 / (1000 : Int32)) - (x1 / (1000 : Int32)) / (10 : Int32) * (10 : Int32)) (((10 : Int32) * ((x1 / (100 : Int32)) - (x1 / (100 : Int32)) / (10 : Int32) * (10 : Int32))) + ((x1 / (10 : Int32)) - (x1 / (10 : Int32)) / (10 : Int32) * (10 : Int32))) o189 ho189) (cwV 2 hts gX3_succeeds_X6_trySet rfl rfl rfl (by decide +kernel) ⟨Nat.le_of_ble_eq_true rfl, Nat.le_of_ble_eq_true rfl⟩) hP hD hS [0, 7] (by decide) rfl rfl 0 rfl rfl rfl hl.1 rfl (Nat.le_of_ble_eq_true rfl) ⟨Nat.zero_le _, Nat.zero_le _⟩ dX3_succeeds_189 (fun H locs hP hD hS => ?_)
      have hP : va_P D vwCl [(azT, .inr (5, [.ref azP, .ref azS, .ref azSe, .int zsto, .int zdro, .int zfou])), (azP, .inr (2, [.ref azLe, .ref azSh, .int ztold, .int zwl, .int zwr])), (azLe, .inl (cI 0, 10, .inl zle)), (azSh, .inl (cI 0, 10, .inl zsh)), (azS, .inr (3, [.ref azTk, .ref azSr, .int zrolls, .int zfrm])), (azTk, .inl (cI 0, 21, .inl ztk)), (azSr, .inl (cI 0, 11, .inl zsr)), (azSe, .inl (cI 0, 3, .inl o189.2))] H := hP
      have hD : va_D A [(azT, .inr (5, [.ref azP, .ref azS, .ref azSe, .int zsto, .int zdro, .int zfou])), (azP, .inr (2, [.ref azLe, .ref azSh, .int ztold, .int zwl, .int zwr])), (azLe, .inl (cI 0, 10, .inl zle)), (azSh, .inl (cI 0, 10, .inl zsh)), (azS, .inr (3, [.ref azTk, .ref azSr, .int zrolls, .int zfrm])), (azTk, .inl (cI 0, 21, .inl ztk)), (azSr, .inl (cI 0, 11, .inl zsr)), (azSe, .inl (cI 0, 3, .inl o189.2))] := hD
      refine lv_if_eq (tgt := 199) hx hb dX3_succeeds_192 (by decide) (fun c9 => ?_) (fun c9 => ?_)
      · have hq := kite_t c9 hq
        exact b_199  _ _ _ zsto zdro zfou ztold zwl zwr zle zsh zrolls zfrm ztk zsr o189.2 hq hP hD hS (lv_sub hl [] rfl)
      · have hq := kite_f c9 hq
        refine lv_iconst (v := 1) hx hb dX3_succeeds_195 (by decide) ?_
        refine lv_goto (tgt := 200) hx hb dX3_succeeds_196 (by decide) ?_
        exact b_200  _ _ _ zsto zdro zfou ztold zwl zwr zle zsh zrolls zfrm ztk zsr o189.2 (1 : Int32) hq hP hD hS (lv_sub hl [] rfl)
  have hq := kite_f c3 hq
  by_cases c4 : (x1 / (10000 : Int32)) = 5
  · have hq := kite_t c4 hq
    refine lv_tableIn (off := 164) (tgt := 201) hx hb dX3_succeeds_37 (by rw [c4]; decide) (by rw [c4]; decide) (by rw [c4]; decide +kernel) (by decide) ?_
    refine lv_iload_n hx hb dX3_succeeds_201 rfl (lv_at hl 5 rfl) ?_
    refine lv_ldc (v := 50000) hx hb hown (hts (.constant RX3 30 (50000 : Int32)) (by decide +kernel)) dX3_succeeds_202 ?_
    refine lv_icmp_ne (tgt := 218) hx hb dX3_succeeds_204 (by decide) (fun c9 => ?_) (fun c9 => ?_)
    · have hq := kite_f c9 hq
      exact b_218  _ _ _ zsto zdro zfou ztold zwl zwr zle zsh zrolls zfrm ztk zsr zse hq hP hD hS (lv_sub hl [] rfl)
    · have hq := kite_t c9 hq
      refine lv_aload_n hx hb dX3_succeeds_207 rfl (lv_at hl 4 rfl) ?_
      obtain ⟨o208, ho208, hq⟩ := kbind hq
      refine kc_Si (av := [.ref azT]) (rest := []) hF hK hG hA (mk_X3_begins l D cI azT azP azS azSe azLe azSh azTk azSr s.heap.size zsto zdro zfou ztold zwl zwr zle zsh zrolls zfrm ztk zsr o208 ho208) (va_cwS 1 hts gX3_succeeds_X3_begins rfl rfl rfl (by decide +kernel) ⟨Nat.le_of_ble_eq_true rfl, Nat.le_of_ble_eq_true rfl⟩) hP hD hS [0, 1, 2, 3, 4, 5, 6] (by decide) rfl rfl rfl hl.1 rfl (Nat.le_of_ble_eq_true rfl) ⟨Nat.zero_le _, Nat.zero_le _⟩ dX3_succeeds_208 (fun H locs hP hD hS => ?_)
      have hP : va_P D vwCl [(azT, .inr (5, [.ref azP, .ref azS, .ref azSe, .int zsto, .int zdro, .int zfou])), (azP, .inr (2, [.ref azLe, .ref azSh, .int o208.2.1, .int zwl, .int zwr])), (azLe, .inl (cI 0, 10, .inl o208.2.2.1)), (azSh, .inl (cI 0, 10, .inl o208.2.2.2.1)), (azS, .inr (3, [.ref azTk, .ref azSr, .int o208.2.2.2.2.1, .int o208.2.2.2.2.2])), (azTk, .inl (cI 0, 21, .inl ztk)), (azSr, .inl (cI 0, 11, .inl zsr)), (azSe, .inl (cI 0, 3, .inl zse))] H := hP
      have hD : va_D A [(azT, .inr (5, [.ref azP, .ref azS, .ref azSe, .int zsto, .int zdro, .int zfou])), (azP, .inr (2, [.ref azLe, .ref azSh, .int o208.2.1, .int zwl, .int zwr])), (azLe, .inl (cI 0, 10, .inl o208.2.2.1)), (azSh, .inl (cI 0, 10, .inl o208.2.2.2.1)), (azS, .inr (3, [.ref azTk, .ref azSr, .int o208.2.2.2.2.1, .int o208.2.2.2.2.2])), (azTk, .inl (cI 0, 21, .inl ztk)), (azSr, .inl (cI 0, 11, .inl zsr)), (azSe, .inl (cI 0, 3, .inl zse))] := hD
      refine lv_if_eq (tgt := 218) hx hb dX3_succeeds_211 (by decide) (fun c9 => ?_) (fun c9 => ?_)
      · have hq := kite_t c9 hq
        exact b_218  _ _ _ zsto zdro zfou o208.2.1 zwl zwr o208.2.2.1 o208.2.2.2.1 o208.2.2.2.2.1 o208.2.2.2.2.2 ztk zsr zse hq hP hD hS (lv_sub hl [] rfl)
      · have hq := kite_f c9 hq
        refine lv_iconst (v := 1) hx hb dX3_succeeds_214 (by decide) ?_
        refine lv_goto (tgt := 219) hx hb dX3_succeeds_215 (by decide) ?_
        exact b_219  _ _ _ zsto zdro zfou o208.2.1 zwl zwr o208.2.2.1 o208.2.2.2.1 o208.2.2.2.2.1 o208.2.2.2.2.2 ztk zsr zse (1 : Int32) hq hP hD hS (lv_sub hl [] rfl)
  have hq := kite_f c4 hq
  by_cases c5 : (x1 / (10000 : Int32)) = 6
  · have hq := kite_t c5 hq
    refine lv_tableIn (off := 183) (tgt := 220) hx hb dX3_succeeds_37 (by rw [c5]; decide) (by rw [c5]; decide) (by rw [c5]; decide +kernel) (by decide) ?_
    refine lv_iload_n hx hb dX3_succeeds_220 rfl (lv_at hl 3 rfl) ?_
    refine lv_if_ne (tgt := 253) hx hb dX3_succeeds_221 (by decide) (fun c9 => ?_) (fun c9 => ?_)
    · have hq := kite_f c9 hq
      exact b_253  _ _ _ zsto zdro zfou ztold zwl zwr zle zsh zrolls zfrm ztk zsr zse hq hP hD hS (lv_sub hl [] rfl)
    · have hq := kite_t c9 hq
      refine lv_iload_n hx hb dX3_succeeds_224 rfl (lv_at hl 2 rfl) ?_
      refine lv_if_ne (tgt := 253) hx hb dX3_succeeds_225 (by decide) (fun c9 => ?_) (fun c9 => ?_)
      · have hq := kite_f c9 hq
        exact b_253  _ _ _ zsto zdro zfou ztold zwl zwr zle zsh zrolls zfrm ztk zsr zse hq hP hD hS (lv_sub hl [] rfl)
      · have hq := kite_t c9 hq
        refine lv_aload_n hx hb dX3_succeeds_228 rfl (lv_at hl 4 rfl) ?_
        refine va_getN (D := D) (ci := 5) (v := .ref azP) (C := RX6) (T := TX6) (N := 6) hx hb hts iw_X3_succeeds_X6 hown hK.1 hP 0 rfl rfl 0 (by decide) (hK.2.at (w := .fieldLinkNest "PinDeck$Script" 35 "PinDeck$State" "pins" "LPinDeck$Pins;" "PinDeck") (by decide +kernel)) (fun _ h9 => h9) rfl dX3_succeeds_229 ?_
        obtain ⟨o232, ho232, hq⟩ := kbind hq
        refine kc_Vi (av := []) (rest := []) hF hK hG hA (mk_X2_toldSet l D cI azP azLe azSh s.heap.size ztold zwl zwr o232 ho232) (cwV 0 hts gX3_succeeds_X2_toldSet rfl rfl rfl (by decide +kernel) ⟨Nat.le_of_ble_eq_true rfl, Nat.le_of_ble_eq_true rfl⟩) hP hD hS [1] (by decide) rfl rfl 0 rfl rfl rfl hl.1 rfl (Nat.le_of_ble_eq_true rfl) ⟨Nat.zero_le _, Nat.zero_le _⟩ dX3_succeeds_232 (fun H locs hP hD hS => ?_)
        have hP : va_P D vwCl [(azT, .inr (5, [.ref azP, .ref azS, .ref azSe, .int zsto, .int zdro, .int zfou])), (azP, .inr (2, [.ref azLe, .ref azSh, .int ztold, .int zwl, .int zwr])), (azLe, .inl (cI 0, 10, .inl zle)), (azSh, .inl (cI 0, 10, .inl zsh)), (azS, .inr (3, [.ref azTk, .ref azSr, .int zrolls, .int zfrm])), (azTk, .inl (cI 0, 21, .inl ztk)), (azSr, .inl (cI 0, 11, .inl zsr)), (azSe, .inl (cI 0, 3, .inl zse))] H := hP
        have hD : va_D A [(azT, .inr (5, [.ref azP, .ref azS, .ref azSe, .int zsto, .int zdro, .int zfou])), (azP, .inr (2, [.ref azLe, .ref azSh, .int ztold, .int zwl, .int zwr])), (azLe, .inl (cI 0, 10, .inl zle)), (azSh, .inl (cI 0, 10, .inl zsh)), (azS, .inr (3, [.ref azTk, .ref azSr, .int zrolls, .int zfrm])), (azTk, .inl (cI 0, 21, .inl ztk)), (azSr, .inl (cI 0, 11, .inl zsr)), (azSe, .inl (cI 0, 3, .inl zse))] := hD
        obtain ⟨o235, ho235, hq⟩ := kbind hq
        refine kc_Si (av := [.int o232]) (rest := []) hF hK hG hA (mk_J6_bitCount_0f7a4 l D cI H.size o232 o235 ho235) (va_cwS 1 hts gX3_succeeds_J6_bitCount_0f7a4 rfl rfl rfl (by decide +kernel) ⟨Nat.le_of_ble_eq_true rfl, Nat.le_of_ble_eq_true rfl⟩) hP hD hS [] (by decide) rfl rfl rfl hl.1 rfl (Nat.le_of_ble_eq_true rfl) ⟨Nat.zero_le _, Nat.zero_le _⟩ dX3_succeeds_235 (fun H locs hP hD hS => ?_)
        have hP : va_P D vwCl [(azT, .inr (5, [.ref azP, .ref azS, .ref azSe, .int zsto, .int zdro, .int zfou])), (azP, .inr (2, [.ref azLe, .ref azSh, .int ztold, .int zwl, .int zwr])), (azLe, .inl (cI 0, 10, .inl zle)), (azSh, .inl (cI 0, 10, .inl zsh)), (azS, .inr (3, [.ref azTk, .ref azSr, .int zrolls, .int zfrm])), (azTk, .inl (cI 0, 21, .inl ztk)), (azSr, .inl (cI 0, 11, .inl zsr)), (azSe, .inl (cI 0, 3, .inl zse))] H := hP
        have hD : va_D A [(azT, .inr (5, [.ref azP, .ref azS, .ref azSe, .int zsto, .int zdro, .int zfou])), (azP, .inr (2, [.ref azLe, .ref azSh, .int ztold, .int zwl, .int zwr])), (azLe, .inl (cI 0, 10, .inl zle)), (azSh, .inl (cI 0, 10, .inl zsh)), (azS, .inr (3, [.ref azTk, .ref azSr, .int zrolls, .int zfrm])), (azTk, .inl (cI 0, 21, .inl ztk)), (azSr, .inl (cI 0, 11, .inl zsr)), (azSe, .inl (cI 0, 3, .inl zse))] := hD
        refine lv_bipush (v := 10) hx hb dX3_succeeds_238 (by decide) ?_
        refine lv_iload hx hb dX3_succeeds_240 (lv_at hl 1 rfl) ?_
        refine lv_imul hx hb dX3_succeeds_242 ?_
        refine lv_iload hx hb dX3_succeeds_243 (lv_at hl 0 rfl) ?_
        refine lv_iadd hx hb dX3_succeeds_245 ?_
        refine lv_icmp_gt (tgt := 253) hx hb dX3_succeeds_246 (by decide) (fun c9 => ?_) (fun c9 => ?_)
        · have hq := kite_t c9 hq
          exact b_253  _ _ _ zsto zdro zfou ztold zwl zwr zle zsh zrolls zfrm ztk zsr zse hq hP hD hS (lv_sub hl [] rfl)
        · have hq := kite_f c9 hq
          refine lv_iconst (v := 1) hx hb dX3_succeeds_249 (by decide) ?_
          refine lv_goto (tgt := 254) hx hb dX3_succeeds_250 (by decide) ?_
          exact b_254  _ _ _ zsto zdro zfou ztold zwl zwr zle zsh zrolls zfrm ztk zsr zse (1 : Int32) hq hP hD hS (lv_sub hl [] rfl)
  have hq := kite_f c5 hq
  by_cases c6 : (x1 / (10000 : Int32)) = 7
  · have hq := kite_t c6 hq
    refine lv_tableIn (off := 218) (tgt := 255) hx hb dX3_succeeds_37 (by rw [c6]; decide) (by rw [c6]; decide) (by rw [c6]; decide +kernel) (by decide) ?_
    refine lv_iload hx hb dX3_succeeds_255 (lv_at hl 1 rfl) ?_
    refine lv_if_ne (tgt := 281) hx hb dX3_succeeds_257 (by decide) (fun c9 => ?_) (fun c9 => ?_)
    · have hq := kite_f c9 hq
      exact b_281  _ _ _ zsto zdro zfou ztold zwl zwr zle zsh zrolls zfrm ztk zsr zse hq hP hD hS (lv_sub hl [] rfl)
    · have hq := kite_t c9 hq
      refine lv_iload hx hb dX3_succeeds_260 (lv_at hl 0 rfl) ?_
      refine lv_if_ne (tgt := 281) hx hb dX3_succeeds_262 (by decide) (fun c9 => ?_) (fun c9 => ?_)
      · have hq := kite_f c9 hq
        exact b_281  _ _ _ zsto zdro zfou ztold zwl zwr zle zsh zrolls zfrm ztk zsr zse hq hP hD hS (lv_sub hl [] rfl)
      · have hq := kite_t c9 hq
        refine lv_aload_n hx hb dX3_succeeds_265 rfl (lv_at hl 4 rfl) ?_
        refine va_getN (D := D) (ci := 5) (v := .ref azP) (C := RX6) (T := TX6) (N := 6) hx hb hts iw_X3_succeeds_X6 hown hK.1 hP 0 rfl rfl 0 (by decide) (hK.2.at (w := .fieldLinkNest "PinDeck$Script" 35 "PinDeck$State" "pins" "LPinDeck$Pins;" "PinDeck") (by decide +kernel)) (fun _ h9 => h9) rfl dX3_succeeds_266 ?_
        refine lv_iload_n hx hb dX3_succeeds_269 rfl (lv_at hl 3 rfl) ?_
        obtain ⟨o270, ho270, hq⟩ := kbind hq
        refine kc_Vi (av := [.int ((x1 / (1000 : Int32)) - (x1 / (1000 : Int32)) / (10 : Int32) * (10 : Int32))]) (rest := []) hF hK hG hA (mk_X2_leaningOf l D cI azP azLe azSh s.heap.size ztold zwl zwr zle ((x1 / (1000 : Int32)) - (x1 / (1000 : Int32)) / (10 : Int32) * (10 : Int32)) o270 ho270) (cwV 1 hts gX3_succeeds_X2_leaningOf rfl rfl rfl (by decide +kernel) ⟨Nat.le_of_ble_eq_true rfl, Nat.le_of_ble_eq_true rfl⟩) hP hD hS [1, 2] (by decide) rfl rfl 0 rfl rfl rfl hl.1 rfl (Nat.le_of_ble_eq_true rfl) ⟨Nat.zero_le _, Nat.zero_le _⟩ dX3_succeeds_270 (fun H locs hP hD hS => ?_)
        have hP : va_P D vwCl [(azT, .inr (5, [.ref azP, .ref azS, .ref azSe, .int zsto, .int zdro, .int zfou])), (azP, .inr (2, [.ref azLe, .ref azSh, .int ztold, .int zwl, .int zwr])), (azLe, .inl (cI 0, 10, .inl zle)), (azSh, .inl (cI 0, 10, .inl zsh)), (azS, .inr (3, [.ref azTk, .ref azSr, .int zrolls, .int zfrm])), (azTk, .inl (cI 0, 21, .inl ztk)), (azSr, .inl (cI 0, 11, .inl zsr)), (azSe, .inl (cI 0, 3, .inl zse))] H := hP
        have hD : va_D A [(azT, .inr (5, [.ref azP, .ref azS, .ref azSe, .int zsto, .int zdro, .int zfou])), (azP, .inr (2, [.ref azLe, .ref azSh, .int ztold, .int zwl, .int zwr])), (azLe, .inl (cI 0, 10, .inl zle)), (azSh, .inl (cI 0, 10, .inl zsh)), (azS, .inr (3, [.ref azTk, .ref azSr, .int zrolls, .int zfrm])), (azTk, .inl (cI 0, 21, .inl ztk)), (azSr, .inl (cI 0, 11, .inl zsr)), (azSe, .inl (cI 0, 3, .inl zse))] := hD
        refine lv_iload_n hx hb dX3_succeeds_273 rfl (lv_at hl 2 rfl) ?_
        refine lv_icmp_ne (tgt := 281) hx hb dX3_succeeds_274 (by decide) (fun c9 => ?_) (fun c9 => ?_)
        · have hq := kite_f c9 hq
          exact b_281  _ _ _ zsto zdro zfou ztold zwl zwr zle zsh zrolls zfrm ztk zsr zse hq hP hD hS (lv_sub hl [] rfl)
        · have hq := kite_t c9 hq
          refine lv_iconst (v := 1) hx hb dX3_succeeds_277 (by decide) ?_
          refine lv_goto (tgt := 282) hx hb dX3_succeeds_278 (by decide) ?_
          exact b_282  _ _ _ zsto zdro zfou ztold zwl zwr zle zsh zrolls zfrm ztk zsr zse (1 : Int32) hq hP hD hS (lv_sub hl [] rfl)
  have hq := kite_f c6 hq
  by_cases c7 : (x1 / (10000 : Int32)) = 8
  · have hq := kite_t c7 hq
    refine lv_tableIn (off := 246) (tgt := 283) hx hb dX3_succeeds_37 (by rw [c7]; decide) (by rw [c7]; decide) (by rw [c7]; decide +kernel) (by decide) ?_
    refine lv_iload_n hx hb dX3_succeeds_283 rfl (lv_at hl 3 rfl) ?_
    refine lv_if_ne (tgt := 314) hx hb dX3_succeeds_284 (by decide) (fun c9 => ?_) (fun c9 => ?_)
    · have hq := kite_f c9 hq
      exact b_314  _ _ _ zsto zdro zfou ztold zwl zwr zle zsh zrolls zfrm ztk zsr zse hq hP hD hS (lv_sub hl [] rfl)
    · have hq := kite_t c9 hq
      refine lv_aload_n hx hb dX3_succeeds_287 rfl (lv_at hl 4 rfl) ?_
      refine va_getN (D := D) (ci := 5) (v := .ref azS) (C := RX6) (T := TX6) (N := 6) hx hb hts iw_X3_succeeds_X6 hown hK.1 hP 0 rfl rfl 1 (by decide) (hK.2.at (w := .fieldLinkNest "PinDeck$Script" 54 "PinDeck$State" "sheet" "LPinDeck$Sheet;" "PinDeck") (by decide +kernel)) (fun _ h9 => h9) rfl dX3_succeeds_288 ?_
      obtain ⟨o291, ho291, hq⟩ := kbind hq
      refine kc_Vi (av := []) (rest := []) hF hK hG hA (mk_X4_allPoints l D cI azS azTk azSr s.heap.size zrolls zfrm ztk zsr o291 ho291) (cwV 0 hts gX3_succeeds_X4_allPoints rfl rfl rfl (by decide +kernel) ⟨Nat.le_of_ble_eq_true rfl, Nat.le_of_ble_eq_true rfl⟩) hP hD hS [4, 5, 6] (by decide) rfl rfl 0 rfl rfl rfl hl.1 rfl (Nat.le_of_ble_eq_true rfl) ⟨Nat.zero_le _, Nat.zero_le _⟩ dX3_succeeds_291 (fun H locs hP hD hS => ?_)
      have hP : va_P D vwCl [(azT, .inr (5, [.ref azP, .ref azS, .ref azSe, .int zsto, .int zdro, .int zfou])), (azP, .inr (2, [.ref azLe, .ref azSh, .int ztold, .int zwl, .int zwr])), (azLe, .inl (cI 0, 10, .inl zle)), (azSh, .inl (cI 0, 10, .inl zsh)), (azS, .inr (3, [.ref azTk, .ref azSr, .int zrolls, .int zfrm])), (azTk, .inl (cI 0, 21, .inl ztk)), (azSr, .inl (cI 0, 11, .inl zsr)), (azSe, .inl (cI 0, 3, .inl zse))] H := hP
      have hD : va_D A [(azT, .inr (5, [.ref azP, .ref azS, .ref azSe, .int zsto, .int zdro, .int zfou])), (azP, .inr (2, [.ref azLe, .ref azSh, .int ztold, .int zwl, .int zwr])), (azLe, .inl (cI 0, 10, .inl zle)), (azSh, .inl (cI 0, 10, .inl zsh)), (azS, .inr (3, [.ref azTk, .ref azSr, .int zrolls, .int zfrm])), (azTk, .inl (cI 0, 21, .inl ztk)), (azSr, .inl (cI 0, 11, .inl zsr)), (azSe, .inl (cI 0, 3, .inl zse))] := hD
      refine lv_bipush (v := 100) hx hb dX3_succeeds_294 (by decide) ?_
      refine lv_iload_n hx hb dX3_succeeds_296 rfl (lv_at hl 2 rfl) ?_
      refine lv_imul hx hb dX3_succeeds_297 ?_
      refine lv_bipush (v := 10) hx hb dX3_succeeds_298 (by decide) ?_
      refine lv_iload hx hb dX3_succeeds_300 (lv_at hl 1 rfl) ?_
      refine lv_imul hx hb dX3_succeeds_302 ?_
      refine lv_iadd hx hb dX3_succeeds_303 ?_
      refine lv_iload hx hb dX3_succeeds_304 (lv_at hl 0 rfl) ?_
      refine lv_iadd hx hb dX3_succeeds_306 ?_
      refine lv_icmp_lt (tgt := 314) hx hb dX3_succeeds_307 (by decide) (fun c9 => ?_) (fun c9 => ?_)
      · have hq := kite_t c9 hq
        exact b_314  _ _ _ zsto zdro zfou ztold zwl zwr zle zsh zrolls zfrm ztk zsr zse hq hP hD hS (lv_sub hl [] rfl)
      · have hq := kite_f c9 hq
        refine lv_iconst (v := 1) hx hb dX3_succeeds_310 (by decide) ?_
        refine lv_goto (tgt := 315) hx hb dX3_succeeds_311 (by decide) ?_
        exact b_315  _ _ _ zsto zdro zfou ztold zwl zwr zle zsh zrolls zfrm ztk zsr zse (1 : Int32) hq hP hD hS (lv_sub hl [] rfl)
  have hq := kite_f c7 hq
  by_cases c8 : (x1 / (10000 : Int32)) = 9
  · have hq := kite_t c8 hq
    refine lv_tableIn (off := 279) (tgt := 316) hx hb dX3_succeeds_37 (by rw [c8]; decide) (by rw [c8]; decide) (by rw [c8]; decide +kernel) (by decide) ?_
    refine lv_iload_n hx hb dX3_succeeds_316 rfl (lv_at hl 2 rfl) ?_
    refine lv_if_ne (tgt := 342) hx hb dX3_succeeds_317 (by decide) (fun c9 => ?_) (fun c9 => ?_)
    · have hq := kite_f c9 hq
      exact b_342  _ _ _ zsto zdro zfou ztold zwl zwr zle zsh zrolls zfrm ztk zsr zse hq hP hD hS (lv_sub hl [] rfl)
    · have hq := kite_t c9 hq
      refine lv_iload hx hb dX3_succeeds_320 (lv_at hl 1 rfl) ?_
      refine lv_if_ne (tgt := 342) hx hb dX3_succeeds_322 (by decide) (fun c9 => ?_) (fun c9 => ?_)
      · have hq := kite_f c9 hq
        exact b_342  _ _ _ zsto zdro zfou ztold zwl zwr zle zsh zrolls zfrm ztk zsr zse hq hP hD hS (lv_sub hl [] rfl)
      · have hq := kite_t c9 hq
        refine lv_aload_n hx hb dX3_succeeds_325 rfl (lv_at hl 4 rfl) ?_
        refine va_getN (D := D) (ci := 5) (v := .ref azS) (C := RX6) (T := TX6) (N := 6) hx hb hts iw_X3_succeeds_X6 hown hK.1 hP 0 rfl rfl 1 (by decide) (hK.2.at (w := .fieldLinkNest "PinDeck$Script" 54 "PinDeck$State" "sheet" "LPinDeck$Sheet;" "PinDeck") (by decide +kernel)) (fun _ h9 => h9) rfl dX3_succeeds_326 ?_
        refine lv_iload_n hx hb dX3_succeeds_329 rfl (lv_at hl 3 rfl) ?_
        obtain ⟨o330, ho330, hq⟩ := kbind hq
        refine kc_Vi (av := [.int ((x1 / (1000 : Int32)) - (x1 / (1000 : Int32)) / (10 : Int32) * (10 : Int32))]) (rest := []) hF hK hG hA (mk_X4_markOf l D cI azS azTk azSr s.heap.size zrolls zfrm ztk zsr ((x1 / (1000 : Int32)) - (x1 / (1000 : Int32)) / (10 : Int32) * (10 : Int32)) o330 ho330) (cwV 1 hts gX3_succeeds_X4_markOf rfl rfl rfl (by decide +kernel) ⟨Nat.le_of_ble_eq_true rfl, Nat.le_of_ble_eq_true rfl⟩) hP hD hS [4, 5, 6] (by decide) rfl rfl 0 rfl rfl rfl hl.1 rfl (Nat.le_of_ble_eq_true rfl) ⟨Nat.zero_le _, Nat.zero_le _⟩ dX3_succeeds_330 (fun H locs hP hD hS => ?_)
        have hP : va_P D vwCl [(azT, .inr (5, [.ref azP, .ref azS, .ref azSe, .int zsto, .int zdro, .int zfou])), (azP, .inr (2, [.ref azLe, .ref azSh, .int ztold, .int zwl, .int zwr])), (azLe, .inl (cI 0, 10, .inl zle)), (azSh, .inl (cI 0, 10, .inl zsh)), (azS, .inr (3, [.ref azTk, .ref azSr, .int zrolls, .int zfrm])), (azTk, .inl (cI 0, 21, .inl ztk)), (azSr, .inl (cI 0, 11, .inl zsr)), (azSe, .inl (cI 0, 3, .inl zse))] H := hP
        have hD : va_D A [(azT, .inr (5, [.ref azP, .ref azS, .ref azSe, .int zsto, .int zdro, .int zfou])), (azP, .inr (2, [.ref azLe, .ref azSh, .int ztold, .int zwl, .int zwr])), (azLe, .inl (cI 0, 10, .inl zle)), (azSh, .inl (cI 0, 10, .inl zsh)), (azS, .inr (3, [.ref azTk, .ref azSr, .int zrolls, .int zfrm])), (azTk, .inl (cI 0, 21, .inl ztk)), (azSr, .inl (cI 0, 11, .inl zsr)), (azSe, .inl (cI 0, 3, .inl zse))] := hD
        refine lv_iload hx hb dX3_succeeds_333 (lv_at hl 0 rfl) ?_
        refine lv_icmp_ne (tgt := 342) hx hb dX3_succeeds_335 (by decide) (fun c9 => ?_) (fun c9 => ?_)
        · have hq := kite_f c9 hq
          exact b_342  _ _ _ zsto zdro zfou ztold zwl zwr zle zsh zrolls zfrm ztk zsr zse hq hP hD hS (lv_sub hl [] rfl)
        · have hq := kite_t c9 hq
          refine lv_iconst (v := 1) hx hb dX3_succeeds_338 (by decide) ?_
          refine lv_goto (tgt := 343) hx hb dX3_succeeds_339 (by decide) ?_
          exact b_343  _ _ _ zsto zdro zfou ztold zwl zwr zle zsh zrolls zfrm ztk zsr zse (1 : Int32) hq hP hD hS (lv_sub hl [] rfl)
  have hq := kite_f c8 hq
  have hsw : ((x1 / (10000 : Int32))).toInt < 1 ∨ 9 < ((x1 / (10000 : Int32))).toInt := by
    refine Decidable.byContradiction fun hn => ?_
    have h9 : ((x1 / (10000 : Int32))).toInt = 1 ∨ ((x1 / (10000 : Int32))).toInt = 2 ∨ ((x1 / (10000 : Int32))).toInt = 3 ∨ ((x1 / (10000 : Int32))).toInt = 4 ∨ ((x1 / (10000 : Int32))).toInt = 5 ∨ ((x1 / (10000 : Int32))).toInt = 6 ∨ ((x1 / (10000 : Int32))).toInt = 7 ∨ ((x1 / (10000 : Int32))).toInt = 8 ∨ ((x1 / (10000 : Int32))).toInt = 9 := by omega
    rcases h9 with h9 | h9 | h9 | h9 | h9 | h9 | h9 | h9 | h9
    · exact c0 (Int32.toInt_inj.mp (h9.trans (by decide)))
    · exact c1 (Int32.toInt_inj.mp (h9.trans (by decide)))
    · exact c2 (Int32.toInt_inj.mp (h9.trans (by decide)))
    · exact c3 (Int32.toInt_inj.mp (h9.trans (by decide)))
    · exact c4 (Int32.toInt_inj.mp (h9.trans (by decide)))
    · exact c5 (Int32.toInt_inj.mp (h9.trans (by decide)))
    · exact c6 (Int32.toInt_inj.mp (h9.trans (by decide)))
    · exact c7 (Int32.toInt_inj.mp (h9.trans (by decide)))
    · exact c8 (Int32.toInt_inj.mp (h9.trans (by decide)))
  refine lv_tableOut (tgt := 344) hx hb dX3_succeeds_37 hsw (by decide) ?_
  refine lv_iconst (v := 0) hx hb dX3_succeeds_344 (by decide) ?_
  have ho := Option.some.inj hq
  subst ho
  exact hend _ _ _ _ (Or.inl rfl) hP hS dX3_succeeds_345

def fn_X1_isEmpty_12 (hsz : Int32) (k0 : Int32) : Option (Int32) :=
  if k0 = 0 ∨ k0 = 1 then some (k0) else none
def fn_X1_isEmpty (hsz : Int32) : Option (Int32) :=
  if hsz = 0 then fn_X1_isEmpty_12 hsz (1 : Int32) else fn_X1_isEmpty_12 hsz (0 : Int32)
theorem iw_X1_isEmpty_X1 : ∀ w ∈ wsX10, w ∈ wsX1_isEmpty := by decide +kernel
set_option maxHeartbeats 4000000 in
set_option maxRecDepth 100000 in
theorem mk_X1_isEmpty (l : Launch) (D : va_G) (cI : Nat → ClassId) (aH aHs : Nat) (sz : Nat) (hsz : Int32) (hnx : Int32) (o : Int32) (hq : fn_X1_isEmpty hsz = some o) : Met l yX1_isEmpty wsX1_isEmpty ({ frames := 0, cells := 0, slots := 0, locals := 0 }) (kPc D cI [(aH, .inr (1, [.ref aHs, .int hsz, .int hnx]))] sz [.ref aH]) (kQi D [(aH, .inr (1, [.ref aHs, .int hsz, .int hnx]))] [(aH, .inr (1, [.ref aHs, .int hsz, .int hnx]))] sz o) 0 0 (va_A [(aH, .inr (1, [.ref aHs, .int hsz, .int hnx]))] sz) := by
  refine kM_z (cc := cX1_isEmpty) (maxL := 1) (by decide +kernel) rfl (Nat.le_of_ble_eq_true rfl) ?_
  intro p e s m args below meth c A Q hF hK hG hD hA hend ls hP hS hl
  obtain ⟨hx, hb, hml, hown, hts⟩ := id hF
  have hl : lv_has ls 1 [(0, .ref aH)] := hl
  have b_12 : ∀ (H : Heap) (locs : List Loc) (ls : Array Slot) (k0 : Int32), fn_X1_isEmpty_12 hsz k0 = some o → va_P D vwCl [(aH, .inr (1, [.ref aHs, .int hsz, .int hnx]))] H → va_S A s.heap H locs → lv_has ls 1 [] → W p l e { frames := 0, cells := 0, slots := 0, locals := 0 } s m args below meth c H locs 0 0 Q (F0 m 12 ls [.int k0]) := by
    intro H locs ls k0
    intro hq hP hS hl
    obtain ⟨hz, hq⟩ := kite_b hq
    have ho := Option.some.inj hq
    subst ho
    exact hend _ _ _ _ hz hP hS dX1_isEmpty_12
  refine lv_aload_n hx hb dX1_isEmpty_0 rfl (lv_at hl 0 rfl) ?_
  refine va_get (D := D) (ci := 1) (v := .int hsz) (C := RX1) (T := TX1) (N := 3) hx hb hts iw_X1_isEmpty_X1 hown hK.1 hP 0 rfl rfl 1 (by decide) (hts (.fieldLink RX1 18 "PinDeck$History" "size" "I") (by decide +kernel)) (fun _ h9 => h9) rfl dX1_isEmpty_1 ?_
  refine lv_if_ne (tgt := 11) hx hb dX1_isEmpty_4 (by decide) (fun c9 => ?_) (fun c9 => ?_)
  · have hq := kite_f c9 hq
    refine lv_iconst (v := 0) hx hb dX1_isEmpty_11 (by decide) ?_
    exact b_12  _ _ _ (0 : Int32) hq hP hS (lv_sub hl [] rfl)
  · have hq := kite_t c9 hq
    refine lv_iconst (v := 1) hx hb dX1_isEmpty_7 (by decide) ?_
    refine lv_goto (tgt := 12) hx hb dX1_isEmpty_8 (by decide) ?_
    exact b_12  _ _ _ (1 : Int32) hq hP hS (lv_sub hl [] rfl)

def fn_X1_forget (hsz : Int32) : Option (Int32) :=
  some ((0 : Int32))
theorem iw_X1_forget_X1 : ∀ w ∈ wsX10, w ∈ wsX1_forget := by decide +kernel
set_option maxHeartbeats 4000000 in
set_option maxRecDepth 100000 in
theorem mk_X1_forget (l : Launch) (D : va_G) (cI : Nat → ClassId) (aH aHs : Nat) (sz : Nat) (hsz : Int32) (hnx : Int32) (o : Int32) (hq : fn_X1_forget hsz = some o) : Met l yX1_forget wsX1_forget ({ frames := 0, cells := 0, slots := 0, locals := 0 }) (kPc D cI [(aH, .inr (1, [.ref aHs, .int hsz, .int hnx]))] sz [.ref aH]) (kQv D [(aH, .inr (1, [.ref aHs, .int hsz, .int hnx]))] [(aH, .inr (1, [.ref aHs, .int o, .int hnx]))] sz) 0 0 (va_A [(aH, .inr (1, [.ref aHs, .int hsz, .int hnx]))] sz) := by
  refine kM_v (cc := cX1_forget) (maxL := 1) (by decide +kernel) rfl (Nat.le_of_ble_eq_true rfl) ?_
  intro p e s m args below meth c A Q hF hK hG hD hA hend ls hP hS hl
  obtain ⟨hx, hb, hml, hown, hts⟩ := id hF
  have hl : lv_has ls 1 [(0, .ref aH)] := hl
  refine lv_aload_n hx hb dX1_forget_0 rfl (lv_at hl 0 rfl) ?_
  refine lv_iconst (v := 0) hx hb dX1_forget_1 (by decide) ?_
  refine va_put (D := D) (ci := 1) (v := .int (0 : Int32)) (ty := .int) (C := RX1) (T := TX1) (N := 3) hx hb hts iw_X1_forget_X1 tyX1 tyX1_ok nmX1 hown hK.1 hP hD hS 0 rfl rfl 1 (by decide) (hts (.fieldLink RX1 18 "PinDeck$History" "size" "I") (by decide +kernel)) (fun _ h9 => h9) rfl (by decide +kernel) rfl rfl (Nat.le_of_ble_eq_true rfl) dX1_forget_2 (fun H locs hP hD hS => ?_)
  have hP : va_P D vwCl [(aH, .inr (1, [.ref aHs, .int (0 : Int32), .int hnx]))] H := hP
  have hD : va_D A [(aH, .inr (1, [.ref aHs, .int (0 : Int32), .int hnx]))] := hD
  have ho := Option.some.inj hq
  subst ho
  exact hend _ _ _ _ hP hS dX1_forget_5

def fn_X5_forget_2  : Nat → kF → Int32 → Option (kF)
  | 0, _, _ => none
  | q + 1, lk, x1 =>
    if (2 : Int32) ≤ x1 then some (lk) else if x1 < 0 ∨ 2 ≤ x1.toNatClampNeg then none else fn_X5_forget_2 q (upd lk (x1.toNatClampNeg) (vp_nar .boolean (0 : Int32))) (x1 + 1)
def fn_X5_forget (lk : kF) : Option (kF) :=
  fn_X5_forget_2 4096 lk (0 : Int32)
theorem iw_X5_forget_X5 : ∀ w ∈ wsX50, w ∈ wsX5_forget := by decide +kernel
set_option maxHeartbeats 4000000 in
set_option maxRecDepth 100000 in
theorem mk_X5_forget (l : Launch) (D : va_G) (cI : Nat → ClassId) (aL aLs aLk : Nat) (sz : Nat) (lk : kF) (o : kF) (hq : fn_X5_forget lk = some o) : Met l yX5_forget wsX5_forget ({ frames := 0, cells := 0, slots := 0, locals := 0 }) (kPc D cI [(aL, .inr (4, [.ref aLs, .ref aLk])), (aLk, .inl (cI 1, 2, .inl lk))] sz [.ref aL]) (kQv D [(aL, .inr (4, [.ref aLs, .ref aLk])), (aLk, .inl (cI 1, 2, .inl lk))] [(aL, .inr (4, [.ref aLs, .ref aLk])), (aLk, .inl (cI 1, 2, .inl o))] sz) 0 0 (va_A [(aL, .inr (4, [.ref aLs, .ref aLk])), (aLk, .inl (cI 1, 2, .inl lk))] sz) := by
  refine kM_v (cc := cX5_forget) (maxL := 2) (by decide +kernel) rfl (Nat.le_of_ble_eq_true rfl) ?_
  intro p e s m args below meth c A Q hF hK hG hD hA hend ls hP hS hl
  obtain ⟨hx, hb, hml, hown, hts⟩ := id hF
  have hl : lv_has ls 2 [(0, .ref aL)] := hl
  have b_2 : ∀ (q : Nat), ∀ (H : Heap) (locs : List Loc) (ls : Array Slot) (lk : kF) (x1 : Int32), fn_X5_forget_2 q lk x1 = some o → va_P D vwCl [(aL, .inr (4, [.ref aLs, .ref aLk])), (aLk, .inl (cI 1, 2, .inl lk))] H → va_D A [(aL, .inr (4, [.ref aLs, .ref aLk])), (aLk, .inl (cI 1, 2, .inl lk))] → va_S A s.heap H locs → lv_has ls 2 [(0, .ref aL), (1, .int x1)] → W p l e { frames := 0, cells := 0, slots := 0, locals := 0 } s m args below meth c H locs 0 0 Q (F0 m 2 ls []) := by
    intro q
    induction q with
    | zero =>
      intro H locs ls lk x1
      intro hq
      cases hq
    | succ q ih =>
      intro H locs ls lk x1
      intro hq hP hD hS hl
      refine lv_iload_n hx hb dX5_forget_2 rfl (lv_at hl 1 rfl) ?_
      refine lv_iconst (v := 2) hx hb dX5_forget_3 (by decide) ?_
      refine lv_icmp_ge (tgt := 20) hx hb dX5_forget_4 (by decide) (fun c9 => ?_) (fun c9 => ?_)
      · have hq := kite_t c9 hq
        have ho := Option.some.inj hq
        subst ho
        exact hend _ _ _ _ hP hS dX5_forget_20
      · have hq := kite_f c9 hq
        refine lv_aload_n hx hb dX5_forget_7 rfl (lv_at hl 0 rfl) ?_
        refine va_get (D := D) (ci := 4) (v := .ref aLk) (C := RX5) (T := TX5) (N := 2) hx hb hts iw_X5_forget_X5 hown hK.1 hP 0 rfl rfl 1 (by decide) (hts (.fieldLink RX5 17 "PinDeck$Slots" "kept" "[Z") (by decide +kernel)) (fun _ h9 => h9) rfl dX5_forget_8 ?_
        refine lv_iload_n hx hb dX5_forget_11 rfl (lv_at hl 1 rfl) ?_
        refine lv_iconst (v := 0) hx hb dX5_forget_12 (by decide) ?_
        obtain ⟨hz, hq⟩ := kite_n hq
        refine k_zast (j := (x1.toNatClampNeg)) hx hb hK.1 hP hD hS 1 1 rfl rfl hz rfl dX5_forget_13 (fun H locs hP hD hS => ?_)
        have hP : va_P D vwCl [(aL, .inr (4, [.ref aLs, .ref aLk])), (aLk, .inl (cI 1, 2, .inl (upd lk (x1.toNatClampNeg) (vp_nar .boolean (0 : Int32)))))] H := hP
        have hD : va_D A [(aL, .inr (4, [.ref aLs, .ref aLk])), (aLk, .inl (cI 1, 2, .inl (upd lk (x1.toNatClampNeg) (vp_nar .boolean (0 : Int32)))))] := hD
        refine lv_iinc (v := (x1 + 1)) (lv' := [(1, .int (x1 + 1)), (0, .ref aL)]) hx hb dX5_forget_14 hl (k := 1) rfl rfl (by decide) rfl (fun ls hl => ?_)
        refine lv_goto (tgt := 2) hx hb dX5_forget_17 (by decide) ?_
        exact ih _ _ _ (upd lk (x1.toNatClampNeg) (vp_nar .boolean (0 : Int32))) (x1 + 1) hq hP hD hS (lv_sub hl [1, 0] rfl)
  refine lv_iconst (v := 0) hx hb dX5_forget_0 (by decide) ?_
  refine lv_istore_n (lv' := [(1, .int (0 : Int32)), (0, .ref aL)]) hx hb dX5_forget_1 rfl hl (by decide) rfl (fun ls hl => ?_)
  exact b_2 4096 _ _ _ lk (0 : Int32) hq hP hD hS (lv_sub hl [1, 0] rfl)

def fn_X7_isSlot_14 (k0 : Int32) : Option (Int32) :=
  if k0 = 0 ∨ k0 = 1 then some (k0) else none
def fn_X7_isSlot_13  : Option (Int32) :=
  fn_X7_isSlot_14 (0 : Int32)
def fn_X7_isSlot (x0 : Int32) : Option (Int32) :=
  if x0 < 0 then fn_X7_isSlot_13 else if (2 : Int32) ≤ x0 then fn_X7_isSlot_13 else fn_X7_isSlot_14 (1 : Int32)
set_option maxHeartbeats 4000000 in
set_option maxRecDepth 100000 in
theorem mk_X7_isSlot (l : Launch) (D : va_G) (cI : Nat → ClassId) (sz : Nat) (x0 : Int32) (o : Int32) (hq : fn_X7_isSlot x0 = some o) : Met l yX7_isSlot wsX7_isSlot ({ frames := 0, cells := 0, slots := 0, locals := 0 }) (kPc D cI [] sz [.int x0]) (kQi D [] [] sz o) 0 0 (va_A [] sz) := by
  refine kM_z (cc := cX7_isSlot) (maxL := 1) (by decide +kernel) rfl (Nat.le_of_ble_eq_true rfl) ?_
  intro p e s m args below meth c A Q hF hK hG hD hA hend ls hP hS hl
  obtain ⟨hx, hb, hml, hown, hts⟩ := id hF
  have hl : lv_has ls 1 [(0, .int x0)] := hl
  have b_14 : ∀ (H : Heap) (locs : List Loc) (ls : Array Slot) (k0 : Int32), fn_X7_isSlot_14 k0 = some o → va_P D vwCl [] H → va_S A s.heap H locs → lv_has ls 1 [] → W p l e { frames := 0, cells := 0, slots := 0, locals := 0 } s m args below meth c H locs 0 0 Q (F0 m 14 ls [.int k0]) := by
    intro H locs ls k0
    intro hq hP hS hl
    obtain ⟨hz, hq⟩ := kite_b hq
    have ho := Option.some.inj hq
    subst ho
    exact hend _ _ _ _ hz hP hS dX7_isSlot_14
  have b_13 : ∀ (H : Heap) (locs : List Loc) (ls : Array Slot), fn_X7_isSlot_13  = some o → va_P D vwCl [] H → va_S A s.heap H locs → lv_has ls 1 [] → W p l e { frames := 0, cells := 0, slots := 0, locals := 0 } s m args below meth c H locs 0 0 Q (F0 m 13 ls []) := by
    intro H locs ls 
    intro hq hP hS hl
    refine lv_iconst (v := 0) hx hb dX7_isSlot_13 (by decide) ?_
    exact b_14  _ _ _ (0 : Int32) hq hP hS (lv_sub hl [] rfl)
  refine lv_iload_n hx hb dX7_isSlot_0 rfl (lv_at hl 0 rfl) ?_
  refine lv_if_lt (tgt := 13) hx hb dX7_isSlot_1 (by decide) (fun c9 => ?_) (fun c9 => ?_)
  · have hq := kite_t c9 hq
    exact b_13  _ _ _  hq hP hS (lv_sub hl [] rfl)
  · have hq := kite_f c9 hq
    refine lv_iload_n hx hb dX7_isSlot_4 rfl (lv_at hl 0 rfl) ?_
    refine lv_iconst (v := 2) hx hb dX7_isSlot_5 (by decide) ?_
    refine lv_icmp_ge (tgt := 13) hx hb dX7_isSlot_6 (by decide) (fun c9 => ?_) (fun c9 => ?_)
    · have hq := kite_t c9 hq
      exact b_13  _ _ _  hq hP hS (lv_sub hl [] rfl)
    · have hq := kite_f c9 hq
      refine lv_iconst (v := 1) hx hb dX7_isSlot_9 (by decide) ?_
      refine lv_goto (tgt := 14) hx hb dX7_isSlot_10 (by decide) ?_
      exact b_14  _ _ _ (1 : Int32) hq hP hS (lv_sub hl [] rfl)

def fn_X5_isKept_21 (lk : kF) (k0 : Int32) : Option (Int32) :=
  if k0 = 0 ∨ k0 = 1 then some (k0) else none
def fn_X5_isKept_20 (lk : kF) : Option (Int32) :=
  fn_X5_isKept_21 lk (0 : Int32)
def fn_X5_isKept (lk : kF) (x1 : Int32) : Option (Int32) :=
  (fn_X7_isSlot x1).bind fun o1 => if o1 = 0 then fn_X5_isKept_20 lk else if x1 < 0 ∨ 2 ≤ x1.toNatClampNeg then none else if (lk (x1.toNatClampNeg)) = 0 then fn_X5_isKept_20 lk else fn_X5_isKept_21 lk (1 : Int32)
theorem iw_X5_isKept_X5 : ∀ w ∈ wsX50, w ∈ wsX5_isKept := by decide +kernel
set_option maxHeartbeats 4000000 in
set_option maxRecDepth 100000 in
theorem mk_X5_isKept (l : Launch) (D : va_G) (cI : Nat → ClassId) (aL aLs aLk : Nat) (sz : Nat) (lk : kF) (x1 : Int32) (o : Int32) (hq : fn_X5_isKept lk x1 = some o) : Met l yX5_isKept wsX5_isKept ({ frames := 1, cells := 0, slots := 0, locals := 20 }) (kPc D cI [(aL, .inr (4, [.ref aLs, .ref aLk])), (aLk, .inl (cI 1, 2, .inl lk))] sz [.ref aL, .int x1]) (kQi D [(aL, .inr (4, [.ref aLs, .ref aLk])), (aLk, .inl (cI 1, 2, .inl lk))] [(aL, .inr (4, [.ref aLs, .ref aLk])), (aLk, .inl (cI 1, 2, .inl lk))] sz o) 0 0 (va_A [(aL, .inr (4, [.ref aLs, .ref aLk])), (aLk, .inl (cI 1, 2, .inl lk))] sz) := by
  refine kM_z (cc := cX5_isKept) (maxL := 2) (by decide +kernel) rfl (Nat.le_of_ble_eq_true rfl) ?_
  intro p e s m args below meth c A Q hF hK hG hD hA hend ls hP hS hl
  obtain ⟨hx, hb, hml, hown, hts⟩ := id hF
  have hl : lv_has ls 2 [(0, .ref aL), (1, .int x1)] := hl
  have b_21 : ∀ (H : Heap) (locs : List Loc) (ls : Array Slot) (k0 : Int32), fn_X5_isKept_21 lk k0 = some o → va_P D vwCl [(aL, .inr (4, [.ref aLs, .ref aLk])), (aLk, .inl (cI 1, 2, .inl lk))] H → va_S A s.heap H locs → lv_has ls 2 [] → W p l e { frames := 1, cells := 0, slots := 0, locals := 20 } s m args below meth c H locs 0 0 Q (F0 m 21 ls [.int k0]) := by
    intro H locs ls k0
    intro hq hP hS hl
    obtain ⟨hz, hq⟩ := kite_b hq
    have ho := Option.some.inj hq
    subst ho
    exact hend _ _ _ _ hz hP hS dX5_isKept_21
  have b_20 : ∀ (H : Heap) (locs : List Loc) (ls : Array Slot), fn_X5_isKept_20 lk = some o → va_P D vwCl [(aL, .inr (4, [.ref aLs, .ref aLk])), (aLk, .inl (cI 1, 2, .inl lk))] H → va_S A s.heap H locs → lv_has ls 2 [] → W p l e { frames := 1, cells := 0, slots := 0, locals := 20 } s m args below meth c H locs 0 0 Q (F0 m 20 ls []) := by
    intro H locs ls 
    intro hq hP hS hl
    refine lv_iconst (v := 0) hx hb dX5_isKept_20 (by decide) ?_
    exact b_21  _ _ _ (0 : Int32) hq hP hS (lv_sub hl [] rfl)
  refine lv_iload_n hx hb dX5_isKept_0 rfl (lv_at hl 1 rfl) ?_
  obtain ⟨o1, ho1, hq⟩ := kbind hq
  refine kc_Ni (av := [.int x1]) (rest := []) hF hK hG hA (mk_X7_isSlot l D cI s.heap.size x1 o1 ho1) ⟨va_cnB 1 hts gX5_isKept_X7_isSlot_n22 rfl rfl rfl (hK.2 (.methodLinkNest "PinDeck$Slots" 22 ⟨"PinDeck", "isSlot", "(I)Z"⟩ "PinDeck") (by decide +kernel)) (hts (.initialized RX7) (by decide +kernel)) (by decide +kernel) ⟨Nat.le_of_ble_eq_true rfl, Nat.le_of_ble_eq_true rfl⟩, hts (.static yX7_isSlot) (by decide +kernel), trivial⟩ hP hD hS [] (by decide) rfl rfl rfl hl.1 rfl (Nat.le_of_ble_eq_true rfl) ⟨Nat.zero_le _, Nat.zero_le _⟩ dX5_isKept_1 (fun H locs hP hD hS => ?_)
  have hP : va_P D vwCl [(aL, .inr (4, [.ref aLs, .ref aLk])), (aLk, .inl (cI 1, 2, .inl lk))] H := hP
  have hD : va_D A [(aL, .inr (4, [.ref aLs, .ref aLk])), (aLk, .inl (cI 1, 2, .inl lk))] := hD
  refine lv_if_eq (tgt := 20) hx hb dX5_isKept_4 (by decide) (fun c9 => ?_) (fun c9 => ?_)
  · have hq := kite_t c9 hq
    exact b_20  _ _ _  hq hP hS (lv_sub hl [] rfl)
  · have hq := kite_f c9 hq
    refine lv_aload_n hx hb dX5_isKept_7 rfl (lv_at hl 0 rfl) ?_
    refine va_get (D := D) (ci := 4) (v := .ref aLk) (C := RX5) (T := TX5) (N := 2) hx hb hts iw_X5_isKept_X5 hown hK.1 hP 0 rfl rfl 1 (by decide) (hts (.fieldLink RX5 17 "PinDeck$Slots" "kept" "[Z") (by decide +kernel)) (fun _ h9 => h9) rfl dX5_isKept_8 ?_
    refine lv_iload_n hx hb dX5_isKept_11 rfl (lv_at hl 1 rfl) ?_
    obtain ⟨hz, hq⟩ := kite_n hq
    refine k_zald (j := (x1.toNatClampNeg)) hx hb hK.1 hP 1 1 rfl rfl hz rfl dX5_isKept_12 ?_
    refine lv_if_eq (tgt := 20) hx hb dX5_isKept_13 (by decide) (fun c9 => ?_) (fun c9 => ?_)
    · have hq := kite_t c9 hq
      exact b_20  _ _ _  hq hP hS (lv_sub hl [] rfl)
    · have hq := kite_f c9 hq
      refine lv_iconst (v := 1) hx hb dX5_isKept_16 (by decide) ?_
      refine lv_goto (tgt := 21) hx hb dX5_isKept_17 (by decide) ?_
      exact b_21  _ _ _ (1 : Int32) hq hP hS (lv_sub hl [] rfl)

def fn_X7_clearText (len : Int32) : Option (Int32 × Int32) :=
  (fn_X0_empty len).bind fun o4 => some (o4.1, o4.2)
theorem iw_X7_clearText_X7 : ∀ w ∈ wsX70, w ∈ wsX7_clearText := by decide +kernel
set_option maxHeartbeats 4000000 in
set_option maxRecDepth 100000 in
theorem mk_X7_clearText (l : Launch) (D : va_G) (cI : Nat → ClassId) (aX aG anT atT aH aL aSg : Nat) (sz : Nat) (len : Int32) (o : Int32 × Int32) (hq : fn_X7_clearText len = some o) : Met l yX7_clearText wsX7_clearText ({ frames := 1, cells := 0, slots := 0, locals := 21 }) (kPc D cI [(aX, .inr (6, [.ref aG, .ref anT, .ref atT, .ref aH, .ref aL])), (aG, .inr (0, [.ref aSg, .int len]))] sz [.ref aX]) (kQi D [(aX, .inr (6, [.ref aG, .ref anT, .ref atT, .ref aH, .ref aL])), (aG, .inr (0, [.ref aSg, .int len]))] [(aX, .inr (6, [.ref aG, .ref anT, .ref atT, .ref aH, .ref aL])), (aG, .inr (0, [.ref aSg, .int o.2]))] sz o.1) 0 0 (va_A [(aX, .inr (6, [.ref aG, .ref anT, .ref atT, .ref aH, .ref aL])), (aG, .inr (0, [.ref aSg, .int len]))] sz) := by
  refine kM_i (cc := cX7_clearText) (maxL := 1) (by decide +kernel) rfl (Nat.le_of_ble_eq_true rfl) ?_
  intro p e s m args below meth c A Q hF hK hG hD hA hend ls hP hS hl
  obtain ⟨hx, hb, hml, hown, hts⟩ := id hF
  have hl : lv_has ls 1 [(0, .ref aX)] := hl
  refine lv_aload_n hx hb dX7_clearText_0 rfl (lv_at hl 0 rfl) ?_
  refine va_get (D := D) (ci := 6) (v := .ref aG) (C := RX7) (T := TX7) (N := 5) hx hb hts iw_X7_clearText_X7 hown hK.1 hP 0 rfl rfl 0 (by decide) (hts (.fieldLink RX7 10 "PinDeck" "text" "LPinDeck$GameText;") (by decide +kernel)) (fun _ h9 => h9) rfl dX7_clearText_1 ?_
  obtain ⟨o4, ho4, hq⟩ := kbind hq
  refine kc_Vi (av := []) (rest := []) hF hK hG hA (mk_X0_empty l D cI aG aSg s.heap.size len o4 ho4) (cwV 0 hts gX7_clearText_X0_empty rfl rfl rfl (by decide +kernel) ⟨Nat.le_of_ble_eq_true rfl, Nat.le_of_ble_eq_true rfl⟩) hP hD hS [1] (by decide) rfl rfl 0 rfl rfl rfl hl.1 rfl (Nat.le_of_ble_eq_true rfl) ⟨Nat.zero_le _, Nat.zero_le _⟩ dX7_clearText_4 (fun H locs hP hD hS => ?_)
  have hP : va_P D vwCl [(aX, .inr (6, [.ref aG, .ref anT, .ref atT, .ref aH, .ref aL])), (aG, .inr (0, [.ref aSg, .int o4.2]))] H := hP
  have hD : va_D A [(aX, .inr (6, [.ref aG, .ref anT, .ref atT, .ref aH, .ref aL])), (aG, .inr (0, [.ref aSg, .int o4.2]))] := hD
  have ho := Option.some.inj hq
  subst ho
  exact hend _ _ _ _ hP hS dX7_clearText_7

def fn_X7_errorPosition (len : Int32) (sg : kF) : Option (Int32) :=
  (fn_X0_firstError len sg).bind fun o4 => some (o4)
theorem iw_X7_errorPosition_X7 : ∀ w ∈ wsX70, w ∈ wsX7_errorPosition := by decide +kernel
set_option maxHeartbeats 4000000 in
set_option maxRecDepth 100000 in
theorem mk_X7_errorPosition (l : Launch) (D : va_G) (cI : Nat → ClassId) (aX aG anT atT aH aL aSg : Nat) (sz : Nat) (len : Int32) (sg : kF) (o : Int32) (hq : fn_X7_errorPosition len sg = some o) : Met l yX7_errorPosition wsX7_errorPosition ({ frames := 3, cells := 0, slots := 0, locals := 66 }) (kPc D cI [(aX, .inr (6, [.ref aG, .ref anT, .ref atT, .ref aH, .ref aL])), (aG, .inr (0, [.ref aSg, .int len])), (aSg, .inl (cI 0, 120, .inl sg))] sz [.ref aX]) (kQi D [(aX, .inr (6, [.ref aG, .ref anT, .ref atT, .ref aH, .ref aL])), (aG, .inr (0, [.ref aSg, .int len])), (aSg, .inl (cI 0, 120, .inl sg))] [(aX, .inr (6, [.ref aG, .ref anT, .ref atT, .ref aH, .ref aL])), (aG, .inr (0, [.ref aSg, .int len])), (aSg, .inl (cI 0, 120, .inl sg))] sz o) 0 0 (va_A [(aX, .inr (6, [.ref aG, .ref anT, .ref atT, .ref aH, .ref aL])), (aG, .inr (0, [.ref aSg, .int len])), (aSg, .inl (cI 0, 120, .inl sg))] sz) := by
  refine kM_i (cc := cX7_errorPosition) (maxL := 1) (by decide +kernel) rfl (Nat.le_of_ble_eq_true rfl) ?_
  intro p e s m args below meth c A Q hF hK hG hD hA hend ls hP hS hl
  obtain ⟨hx, hb, hml, hown, hts⟩ := id hF
  have hl : lv_has ls 1 [(0, .ref aX)] := hl
  refine lv_aload_n hx hb dX7_errorPosition_0 rfl (lv_at hl 0 rfl) ?_
  refine va_get (D := D) (ci := 6) (v := .ref aG) (C := RX7) (T := TX7) (N := 5) hx hb hts iw_X7_errorPosition_X7 hown hK.1 hP 0 rfl rfl 0 (by decide) (hts (.fieldLink RX7 10 "PinDeck" "text" "LPinDeck$GameText;") (by decide +kernel)) (fun _ h9 => h9) rfl dX7_errorPosition_1 ?_
  obtain ⟨o4, ho4, hq⟩ := kbind hq
  refine kc_Vi (av := []) (rest := []) hF hK hG hA (mk_X0_firstError l D cI aG aSg s.heap.size len sg o4 ho4) (cwV 0 hts gX7_errorPosition_X0_firstError rfl rfl rfl (by decide +kernel) ⟨Nat.le_of_ble_eq_true rfl, Nat.le_of_ble_eq_true rfl⟩) hP hD hS [1, 2] (by decide) rfl rfl 0 rfl rfl rfl hl.1 rfl (Nat.le_of_ble_eq_true rfl) ⟨Nat.zero_le _, Nat.zero_le _⟩ dX7_errorPosition_4 (fun H locs hP hD hS => ?_)
  have hP : va_P D vwCl [(aX, .inr (6, [.ref aG, .ref anT, .ref atT, .ref aH, .ref aL])), (aG, .inr (0, [.ref aSg, .int len])), (aSg, .inl (cI 0, 120, .inl sg))] H := hP
  have hD : va_D A [(aX, .inr (6, [.ref aG, .ref anT, .ref atT, .ref aH, .ref aL])), (aG, .inr (0, [.ref aSg, .int len])), (aSg, .inl (cI 0, 120, .inl sg))] := hD
  have ho := Option.some.inj hq
  subst ho
  exact hend _ _ _ _ hP hS dX7_errorPosition_7

def fn_X7_takesOnTrial (ntold : Int32) (nle : kF) (nsh : kF) (nse : kF) (ttold : Int32) (twl : Int32) (twr : Int32) (tle : kF) (tsh : kF) (x1 : Int32) (x2 : Int32) : Option (Int32 × Int32 × Int32 × Int32 × kF × kF) :=
  (fn_X2_copyFrom ttold tle tsh ntold nle nsh).bind fun o14 => (fn_X2_meetBall twl twr o14.2.1 o14.2.2 x1 x2).bind fun o26 => (fn_X6_settingAt nse (1 : Int32)).bind fun o41 => (fn_X2_tell o14.1 o26.2.2.1 o41).bind fun o44 => some (o44.1, o44.2, o26.1, o26.2.1, o26.2.2.1, o26.2.2.2)
theorem iw_X7_takesOnTrial_X6 : ∀ w ∈ wsX60, w ∈ wsX7_takesOnTrial := by decide +kernel
theorem iw_X7_takesOnTrial_X7 : ∀ w ∈ wsX70, w ∈ wsX7_takesOnTrial := by decide +kernel
set_option maxHeartbeats 4000000 in
set_option maxRecDepth 100000 in
theorem mk_X7_takesOnTrial (l : Launch) (D : va_G) (cI : Nat → ClassId) (aX aG anT atT aH aL anP anS anSe anLe anSh atP atS atSe atLe atSh : Nat) (sz : Nat) (nsto : Int32) (ndro : Int32) (nfou : Int32) (ntold : Int32) (nwl : Int32) (nwr : Int32) (nle : kF) (nsh : kF) (nse : kF) (tsto : Int32) (tdro : Int32) (tfou : Int32) (ttold : Int32) (twl : Int32) (twr : Int32) (tle : kF) (tsh : kF) (x1 : Int32) (x2 : Int32) (o : Int32 × Int32 × Int32 × Int32 × kF × kF) (hq : fn_X7_takesOnTrial ntold nle nsh nse ttold twl twr tle tsh x1 x2 = some o) : Met l yX7_takesOnTrial wsX7_takesOnTrial ({ frames := 3, cells := 0, slots := 0, locals := 75 }) (kPc D cI [(aX, .inr (6, [.ref aG, .ref anT, .ref atT, .ref aH, .ref aL])), (anT, .inr (5, [.ref anP, .ref anS, .ref anSe, .int nsto, .int ndro, .int nfou])), (anP, .inr (2, [.ref anLe, .ref anSh, .int ntold, .int nwl, .int nwr])), (anLe, .inl (cI 0, 10, .inl nle)), (anSh, .inl (cI 0, 10, .inl nsh)), (anSe, .inl (cI 0, 3, .inl nse)), (atT, .inr (5, [.ref atP, .ref atS, .ref atSe, .int tsto, .int tdro, .int tfou])), (atP, .inr (2, [.ref atLe, .ref atSh, .int ttold, .int twl, .int twr])), (atLe, .inl (cI 0, 10, .inl tle)), (atSh, .inl (cI 0, 10, .inl tsh))] sz [.ref aX, .int x1, .int x2]) (kQi D [(aX, .inr (6, [.ref aG, .ref anT, .ref atT, .ref aH, .ref aL])), (anT, .inr (5, [.ref anP, .ref anS, .ref anSe, .int nsto, .int ndro, .int nfou])), (anP, .inr (2, [.ref anLe, .ref anSh, .int ntold, .int nwl, .int nwr])), (anLe, .inl (cI 0, 10, .inl nle)), (anSh, .inl (cI 0, 10, .inl nsh)), (anSe, .inl (cI 0, 3, .inl nse)), (atT, .inr (5, [.ref atP, .ref atS, .ref atSe, .int tsto, .int tdro, .int tfou])), (atP, .inr (2, [.ref atLe, .ref atSh, .int ttold, .int twl, .int twr])), (atLe, .inl (cI 0, 10, .inl tle)), (atSh, .inl (cI 0, 10, .inl tsh))] [(aX, .inr (6, [.ref aG, .ref anT, .ref atT, .ref aH, .ref aL])), (anT, .inr (5, [.ref anP, .ref anS, .ref anSe, .int nsto, .int ndro, .int nfou])), (anP, .inr (2, [.ref anLe, .ref anSh, .int ntold, .int nwl, .int nwr])), (anLe, .inl (cI 0, 10, .inl nle)), (anSh, .inl (cI 0, 10, .inl nsh)), (anSe, .inl (cI 0, 3, .inl nse)), (atT, .inr (5, [.ref atP, .ref atS, .ref atSe, .int tsto, .int tdro, .int tfou])), (atP, .inr (2, [.ref atLe, .ref atSh, .int o.2.1, .int o.2.2.1, .int o.2.2.2.1])), (atLe, .inl (cI 0, 10, .inl o.2.2.2.2.1)), (atSh, .inl (cI 0, 10, .inl o.2.2.2.2.2))] sz o.1) 0 0 (va_A [(aX, .inr (6, [.ref aG, .ref anT, .ref atT, .ref aH, .ref aL])), (anT, .inr (5, [.ref anP, .ref anS, .ref anSe, .int nsto, .int ndro, .int nfou])), (anP, .inr (2, [.ref anLe, .ref anSh, .int ntold, .int nwl, .int nwr])), (anLe, .inl (cI 0, 10, .inl nle)), (anSh, .inl (cI 0, 10, .inl nsh)), (anSe, .inl (cI 0, 3, .inl nse)), (atT, .inr (5, [.ref atP, .ref atS, .ref atSe, .int tsto, .int tdro, .int tfou])), (atP, .inr (2, [.ref atLe, .ref atSh, .int ttold, .int twl, .int twr])), (atLe, .inl (cI 0, 10, .inl tle)), (atSh, .inl (cI 0, 10, .inl tsh))] sz) := by
  refine kM_i (cc := cX7_takesOnTrial) (maxL := 3) (by decide +kernel) rfl (Nat.le_of_ble_eq_true rfl) ?_
  intro p e s m args below meth c A Q hF hK hG hD hA hend ls hP hS hl
  obtain ⟨hx, hb, hml, hown, hts⟩ := id hF
  have hl : lv_has ls 3 [(0, .ref aX), (1, .int x1), (2, .int x2)] := hl
  refine lv_aload_n hx hb dX7_takesOnTrial_0 rfl (lv_at hl 0 rfl) ?_
  refine va_get (D := D) (ci := 6) (v := .ref atT) (C := RX7) (T := TX7) (N := 5) hx hb hts iw_X7_takesOnTrial_X7 hown hK.1 hP 0 rfl rfl 2 (by decide) (hts (.fieldLink RX7 23 "PinDeck" "trial" "LPinDeck$State;") (by decide +kernel)) (fun _ h9 => h9) rfl dX7_takesOnTrial_1 ?_
  refine va_getN (D := D) (ci := 5) (v := .ref atP) (C := RX6) (T := TX6) (N := 6) hx hb hts iw_X7_takesOnTrial_X6 hown hK.1 hP 6 rfl rfl 0 (by decide) (hK.2.at (w := .fieldLinkNest "PinDeck" 108 "PinDeck$State" "pins" "LPinDeck$Pins;" "PinDeck") (by decide +kernel)) (fun _ h9 => h9) rfl dX7_takesOnTrial_4 ?_
  refine lv_aload_n hx hb dX7_takesOnTrial_7 rfl (lv_at hl 0 rfl) ?_
  refine va_get (D := D) (ci := 6) (v := .ref anT) (C := RX7) (T := TX7) (N := 5) hx hb hts iw_X7_takesOnTrial_X7 hown hK.1 hP 0 rfl rfl 1 (by decide) (hts (.fieldLink RX7 19 "PinDeck" "now" "LPinDeck$State;") (by decide +kernel)) (fun _ h9 => h9) rfl dX7_takesOnTrial_8 ?_
  refine va_getN (D := D) (ci := 5) (v := .ref anP) (C := RX6) (T := TX6) (N := 6) hx hb hts iw_X7_takesOnTrial_X6 hown hK.1 hP 1 rfl rfl 0 (by decide) (hK.2.at (w := .fieldLinkNest "PinDeck" 108 "PinDeck$State" "pins" "LPinDeck$Pins;" "PinDeck") (by decide +kernel)) (fun _ h9 => h9) rfl dX7_takesOnTrial_11 ?_
  obtain ⟨o14, ho14, hq⟩ := kbind hq
  refine kc_Vv (av := [.ref anP]) (rest := []) hF hK hG hA (mk_X2_copyFrom l D cI atP atLe atSh anP anLe anSh s.heap.size ttold twl twr tle tsh ntold nwl nwr nle nsh o14 ho14) (cwV 1 hts gX7_takesOnTrial_X2_copyFrom rfl rfl rfl (by decide +kernel) ⟨Nat.le_of_ble_eq_true rfl, Nat.le_of_ble_eq_true rfl⟩) hP hD hS [7, 8, 9, 2, 3, 4] (by decide) rfl rfl 0 rfl rfl rfl hl.1 rfl (Nat.le_of_ble_eq_true rfl) ⟨Nat.zero_le _, Nat.zero_le _⟩ dX7_takesOnTrial_14 (fun H locs hP hD hS => ?_)
  have hP : va_P D vwCl [(aX, .inr (6, [.ref aG, .ref anT, .ref atT, .ref aH, .ref aL])), (anT, .inr (5, [.ref anP, .ref anS, .ref anSe, .int nsto, .int ndro, .int nfou])), (anP, .inr (2, [.ref anLe, .ref anSh, .int ntold, .int nwl, .int nwr])), (anLe, .inl (cI 0, 10, .inl nle)), (anSh, .inl (cI 0, 10, .inl nsh)), (anSe, .inl (cI 0, 3, .inl nse)), (atT, .inr (5, [.ref atP, .ref atS, .ref atSe, .int tsto, .int tdro, .int tfou])), (atP, .inr (2, [.ref atLe, .ref atSh, .int o14.1, .int twl, .int twr])), (atLe, .inl (cI 0, 10, .inl o14.2.1)), (atSh, .inl (cI 0, 10, .inl o14.2.2))] H := hP
  have hD : va_D A [(aX, .inr (6, [.ref aG, .ref anT, .ref atT, .ref aH, .ref aL])), (anT, .inr (5, [.ref anP, .ref anS, .ref anSe, .int nsto, .int ndro, .int nfou])), (anP, .inr (2, [.ref anLe, .ref anSh, .int ntold, .int nwl, .int nwr])), (anLe, .inl (cI 0, 10, .inl nle)), (anSh, .inl (cI 0, 10, .inl nsh)), (anSe, .inl (cI 0, 3, .inl nse)), (atT, .inr (5, [.ref atP, .ref atS, .ref atSe, .int tsto, .int tdro, .int tfou])), (atP, .inr (2, [.ref atLe, .ref atSh, .int o14.1, .int twl, .int twr])), (atLe, .inl (cI 0, 10, .inl o14.2.1)), (atSh, .inl (cI 0, 10, .inl o14.2.2))] := hD
  refine lv_aload_n hx hb dX7_takesOnTrial_17 rfl (lv_at hl 0 rfl) ?_
  refine va_get (D := D) (ci := 6) (v := .ref atT) (C := RX7) (T := TX7) (N := 5) hx hb hts iw_X7_takesOnTrial_X7 hown hK.1 hP 0 rfl rfl 2 (by decide) (hts (.fieldLink RX7 23 "PinDeck" "trial" "LPinDeck$State;") (by decide +kernel)) (fun _ h9 => h9) rfl dX7_takesOnTrial_18 ?_
  refine va_getN (D := D) (ci := 5) (v := .ref atP) (C := RX6) (T := TX6) (N := 6) hx hb hts iw_X7_takesOnTrial_X6 hown hK.1 hP 6 rfl rfl 0 (by decide) (hK.2.at (w := .fieldLinkNest "PinDeck" 108 "PinDeck$State" "pins" "LPinDeck$Pins;" "PinDeck") (by decide +kernel)) (fun _ h9 => h9) rfl dX7_takesOnTrial_21 ?_
  refine lv_iload_n hx hb dX7_takesOnTrial_24 rfl (lv_at hl 1 rfl) ?_
  refine lv_iload_n hx hb dX7_takesOnTrial_25 rfl (lv_at hl 2 rfl) ?_
  obtain ⟨o26, ho26, hq⟩ := kbind hq
  refine kc_Vv (av := [.int x1, .int x2]) (rest := []) hF hK hG hA (mk_X2_meetBall l D cI atP atLe atSh H.size o14.1 twl twr o14.2.1 o14.2.2 x1 x2 o26 ho26) (cwV 2 hts gX7_takesOnTrial_X2_meetBall rfl rfl rfl (by decide +kernel) ⟨Nat.le_of_ble_eq_true rfl, Nat.le_of_ble_eq_true rfl⟩) hP hD hS [7, 8, 9] (by decide) rfl rfl 0 rfl rfl rfl hl.1 rfl (Nat.le_of_ble_eq_true rfl) ⟨Nat.zero_le _, Nat.zero_le _⟩ dX7_takesOnTrial_26 (fun H locs hP hD hS => ?_)
  have hP : va_P D vwCl [(aX, .inr (6, [.ref aG, .ref anT, .ref atT, .ref aH, .ref aL])), (anT, .inr (5, [.ref anP, .ref anS, .ref anSe, .int nsto, .int ndro, .int nfou])), (anP, .inr (2, [.ref anLe, .ref anSh, .int ntold, .int nwl, .int nwr])), (anLe, .inl (cI 0, 10, .inl nle)), (anSh, .inl (cI 0, 10, .inl nsh)), (anSe, .inl (cI 0, 3, .inl nse)), (atT, .inr (5, [.ref atP, .ref atS, .ref atSe, .int tsto, .int tdro, .int tfou])), (atP, .inr (2, [.ref atLe, .ref atSh, .int o14.1, .int o26.1, .int o26.2.1])), (atLe, .inl (cI 0, 10, .inl o26.2.2.1)), (atSh, .inl (cI 0, 10, .inl o26.2.2.2))] H := hP
  have hD : va_D A [(aX, .inr (6, [.ref aG, .ref anT, .ref atT, .ref aH, .ref aL])), (anT, .inr (5, [.ref anP, .ref anS, .ref anSe, .int nsto, .int ndro, .int nfou])), (anP, .inr (2, [.ref anLe, .ref anSh, .int ntold, .int nwl, .int nwr])), (anLe, .inl (cI 0, 10, .inl nle)), (anSh, .inl (cI 0, 10, .inl nsh)), (anSe, .inl (cI 0, 3, .inl nse)), (atT, .inr (5, [.ref atP, .ref atS, .ref atSe, .int tsto, .int tdro, .int tfou])), (atP, .inr (2, [.ref atLe, .ref atSh, .int o14.1, .int o26.1, .int o26.2.1])), (atLe, .inl (cI 0, 10, .inl o26.2.2.1)), (atSh, .inl (cI 0, 10, .inl o26.2.2.2))] := hD
  refine lv_aload_n hx hb dX7_takesOnTrial_29 rfl (lv_at hl 0 rfl) ?_
  refine va_get (D := D) (ci := 6) (v := .ref atT) (C := RX7) (T := TX7) (N := 5) hx hb hts iw_X7_takesOnTrial_X7 hown hK.1 hP 0 rfl rfl 2 (by decide) (hts (.fieldLink RX7 23 "PinDeck" "trial" "LPinDeck$State;") (by decide +kernel)) (fun _ h9 => h9) rfl dX7_takesOnTrial_30 ?_
  refine va_getN (D := D) (ci := 5) (v := .ref atP) (C := RX6) (T := TX6) (N := 6) hx hb hts iw_X7_takesOnTrial_X6 hown hK.1 hP 6 rfl rfl 0 (by decide) (hK.2.at (w := .fieldLinkNest "PinDeck" 108 "PinDeck$State" "pins" "LPinDeck$Pins;" "PinDeck") (by decide +kernel)) (fun _ h9 => h9) rfl dX7_takesOnTrial_33 ?_
  refine lv_aload_n hx hb dX7_takesOnTrial_36 rfl (lv_at hl 0 rfl) ?_
  refine va_get (D := D) (ci := 6) (v := .ref anT) (C := RX7) (T := TX7) (N := 5) hx hb hts iw_X7_takesOnTrial_X7 hown hK.1 hP 0 rfl rfl 1 (by decide) (hts (.fieldLink RX7 19 "PinDeck" "now" "LPinDeck$State;") (by decide +kernel)) (fun _ h9 => h9) rfl dX7_takesOnTrial_37 ?_
  refine lv_iconst (v := 1) hx hb dX7_takesOnTrial_40 (by decide) ?_
  obtain ⟨o41, ho41, hq⟩ := kbind hq
  refine kc_Vi (av := [.int (1 : Int32)]) (rest := [.ref atP]) hF hK hG hA (mk_X6_settingAt l D cI anT anP anS anSe H.size nsto ndro nfou nse (1 : Int32) o41 ho41) (cwV 1 hts gX7_takesOnTrial_X6_settingAt rfl rfl rfl (by decide +kernel) ⟨Nat.le_of_ble_eq_true rfl, Nat.le_of_ble_eq_true rfl⟩) hP hD hS [1, 5] (by decide) rfl rfl 0 rfl rfl rfl hl.1 rfl (Nat.le_of_ble_eq_true rfl) ⟨Nat.zero_le _, Nat.zero_le _⟩ dX7_takesOnTrial_41 (fun H locs hP hD hS => ?_)
  have hP : va_P D vwCl [(aX, .inr (6, [.ref aG, .ref anT, .ref atT, .ref aH, .ref aL])), (anT, .inr (5, [.ref anP, .ref anS, .ref anSe, .int nsto, .int ndro, .int nfou])), (anP, .inr (2, [.ref anLe, .ref anSh, .int ntold, .int nwl, .int nwr])), (anLe, .inl (cI 0, 10, .inl nle)), (anSh, .inl (cI 0, 10, .inl nsh)), (anSe, .inl (cI 0, 3, .inl nse)), (atT, .inr (5, [.ref atP, .ref atS, .ref atSe, .int tsto, .int tdro, .int tfou])), (atP, .inr (2, [.ref atLe, .ref atSh, .int o14.1, .int o26.1, .int o26.2.1])), (atLe, .inl (cI 0, 10, .inl o26.2.2.1)), (atSh, .inl (cI 0, 10, .inl o26.2.2.2))] H := hP
  have hD : va_D A [(aX, .inr (6, [.ref aG, .ref anT, .ref atT, .ref aH, .ref aL])), (anT, .inr (5, [.ref anP, .ref anS, .ref anSe, .int nsto, .int ndro, .int nfou])), (anP, .inr (2, [.ref anLe, .ref anSh, .int ntold, .int nwl, .int nwr])), (anLe, .inl (cI 0, 10, .inl nle)), (anSh, .inl (cI 0, 10, .inl nsh)), (anSe, .inl (cI 0, 3, .inl nse)), (atT, .inr (5, [.ref atP, .ref atS, .ref atSe, .int tsto, .int tdro, .int tfou])), (atP, .inr (2, [.ref atLe, .ref atSh, .int o14.1, .int o26.1, .int o26.2.1])), (atLe, .inl (cI 0, 10, .inl o26.2.2.1)), (atSh, .inl (cI 0, 10, .inl o26.2.2.2))] := hD
  obtain ⟨o44, ho44, hq⟩ := kbind hq
  refine kc_Vi (av := [.int o41]) (rest := []) hF hK hG hA (mk_X2_tell l D cI atP atLe atSh H.size o14.1 o26.1 o26.2.1 o26.2.2.1 o41 o44 ho44) (cwV 1 hts gX7_takesOnTrial_X2_tell rfl rfl rfl (by decide +kernel) ⟨Nat.le_of_ble_eq_true rfl, Nat.le_of_ble_eq_true rfl⟩) hP hD hS [7, 8] (by decide) rfl rfl 0 rfl rfl rfl hl.1 rfl (Nat.le_of_ble_eq_true rfl) ⟨Nat.zero_le _, Nat.zero_le _⟩ dX7_takesOnTrial_44 (fun H locs hP hD hS => ?_)
  have hP : va_P D vwCl [(aX, .inr (6, [.ref aG, .ref anT, .ref atT, .ref aH, .ref aL])), (anT, .inr (5, [.ref anP, .ref anS, .ref anSe, .int nsto, .int ndro, .int nfou])), (anP, .inr (2, [.ref anLe, .ref anSh, .int ntold, .int nwl, .int nwr])), (anLe, .inl (cI 0, 10, .inl nle)), (anSh, .inl (cI 0, 10, .inl nsh)), (anSe, .inl (cI 0, 3, .inl nse)), (atT, .inr (5, [.ref atP, .ref atS, .ref atSe, .int tsto, .int tdro, .int tfou])), (atP, .inr (2, [.ref atLe, .ref atSh, .int o44.2, .int o26.1, .int o26.2.1])), (atLe, .inl (cI 0, 10, .inl o26.2.2.1)), (atSh, .inl (cI 0, 10, .inl o26.2.2.2))] H := hP
  have hD : va_D A [(aX, .inr (6, [.ref aG, .ref anT, .ref atT, .ref aH, .ref aL])), (anT, .inr (5, [.ref anP, .ref anS, .ref anSe, .int nsto, .int ndro, .int nfou])), (anP, .inr (2, [.ref anLe, .ref anSh, .int ntold, .int nwl, .int nwr])), (anLe, .inl (cI 0, 10, .inl nle)), (anSh, .inl (cI 0, 10, .inl nsh)), (anSe, .inl (cI 0, 3, .inl nse)), (atT, .inr (5, [.ref atP, .ref atS, .ref atSe, .int tsto, .int tdro, .int tfou])), (atP, .inr (2, [.ref atLe, .ref atSh, .int o44.2, .int o26.1, .int o26.2.1])), (atLe, .inl (cI 0, 10, .inl o26.2.2.1)), (atSh, .inl (cI 0, 10, .inl o26.2.2.2))] := hD
  have ho := Option.some.inj hq
  subst ho
  exact hend _ _ _ _ hP hS dX7_takesOnTrial_47

def fn_X7_slowest_25 (nse : kF) (x1 : Int32) : Option (Int32) :=
  some (x1)
def fn_X7_slowest_2  : Nat → kF → Int32 → Option (Int32)
  | 0, _, _ => none
  | q + 1, nse, x1 =>
    if (30 : Int32) ≤ x1 then fn_X7_slowest_25 nse x1 else (fn_X6_stops nse x1).bind fun o13 => if o13 = 0 then fn_X7_slowest_25 nse x1 else fn_X7_slowest_2 q nse (x1 + 1)
def fn_X7_slowest (nse : kF) : Option (Int32) :=
  fn_X7_slowest_2 4096 nse (1 : Int32)
theorem iw_X7_slowest_X7 : ∀ w ∈ wsX70, w ∈ wsX7_slowest := by decide +kernel
set_option maxHeartbeats 4000000 in
set_option maxRecDepth 100000 in
theorem mk_X7_slowest (l : Launch) (D : va_G) (cI : Nat → ClassId) (aX aG anT atT aH aL anP anS anSe : Nat) (sz : Nat) (nsto : Int32) (ndro : Int32) (nfou : Int32) (nse : kF) (o : Int32) (hq : fn_X7_slowest nse = some o) : Met l yX7_slowest wsX7_slowest ({ frames := 1, cells := 0, slots := 0, locals := 21 }) (kPc D cI [(aX, .inr (6, [.ref aG, .ref anT, .ref atT, .ref aH, .ref aL])), (anT, .inr (5, [.ref anP, .ref anS, .ref anSe, .int nsto, .int ndro, .int nfou])), (anSe, .inl (cI 0, 3, .inl nse))] sz [.ref aX]) (kQi D [(aX, .inr (6, [.ref aG, .ref anT, .ref atT, .ref aH, .ref aL])), (anT, .inr (5, [.ref anP, .ref anS, .ref anSe, .int nsto, .int ndro, .int nfou])), (anSe, .inl (cI 0, 3, .inl nse))] [(aX, .inr (6, [.ref aG, .ref anT, .ref atT, .ref aH, .ref aL])), (anT, .inr (5, [.ref anP, .ref anS, .ref anSe, .int nsto, .int ndro, .int nfou])), (anSe, .inl (cI 0, 3, .inl nse))] sz o) 0 0 (va_A [(aX, .inr (6, [.ref aG, .ref anT, .ref atT, .ref aH, .ref aL])), (anT, .inr (5, [.ref anP, .ref anS, .ref anSe, .int nsto, .int ndro, .int nfou])), (anSe, .inl (cI 0, 3, .inl nse))] sz) := by
  refine kM_i (cc := cX7_slowest) (maxL := 2) (by decide +kernel) rfl (Nat.le_of_ble_eq_true rfl) ?_
  intro p e s m args below meth c A Q hF hK hG hD hA hend ls hP hS hl
  obtain ⟨hx, hb, hml, hown, hts⟩ := id hF
  have hl : lv_has ls 2 [(0, .ref aX)] := hl
  have b_25 : ∀ (H : Heap) (locs : List Loc) (ls : Array Slot) (x1 : Int32), fn_X7_slowest_25 nse x1 = some o → va_P D vwCl [(aX, .inr (6, [.ref aG, .ref anT, .ref atT, .ref aH, .ref aL])), (anT, .inr (5, [.ref anP, .ref anS, .ref anSe, .int nsto, .int ndro, .int nfou])), (anSe, .inl (cI 0, 3, .inl nse))] H → va_S A s.heap H locs → lv_has ls 2 [(1, .int x1)] → W p l e { frames := 1, cells := 0, slots := 0, locals := 21 } s m args below meth c H locs 0 0 Q (F0 m 25 ls []) := by
    intro H locs ls x1
    intro hq hP hS hl
    refine lv_iload_n hx hb dX7_slowest_25 rfl (lv_at hl 0 rfl) ?_
    have ho := Option.some.inj hq
    subst ho
    exact hend _ _ _ _ hP hS dX7_slowest_26
  have b_2 : ∀ (q : Nat), ∀ (H : Heap) (locs : List Loc) (ls : Array Slot) (x1 : Int32), fn_X7_slowest_2 q nse x1 = some o → va_P D vwCl [(aX, .inr (6, [.ref aG, .ref anT, .ref atT, .ref aH, .ref aL])), (anT, .inr (5, [.ref anP, .ref anS, .ref anSe, .int nsto, .int ndro, .int nfou])), (anSe, .inl (cI 0, 3, .inl nse))] H → va_S A s.heap H locs → lv_has ls 2 [(0, .ref aX), (1, .int x1)] → W p l e { frames := 1, cells := 0, slots := 0, locals := 21 } s m args below meth c H locs 0 0 Q (F0 m 2 ls []) := by
    intro q
    induction q with
    | zero =>
      intro H locs ls x1
      intro hq
      cases hq
    | succ q ih =>
      intro H locs ls x1
      intro hq hP hS hl
      refine lv_iload_n hx hb dX7_slowest_2 rfl (lv_at hl 1 rfl) ?_
      refine lv_bipush (v := 30) hx hb dX7_slowest_3 (by decide) ?_
      refine lv_icmp_ge (tgt := 25) hx hb dX7_slowest_5 (by decide) (fun c9 => ?_) (fun c9 => ?_)
      · have hq := kite_t c9 hq
        exact b_25  _ _ _ x1 hq hP hS (lv_sub hl [1] rfl)
      · have hq := kite_f c9 hq
        refine lv_aload_n hx hb dX7_slowest_8 rfl (lv_at hl 0 rfl) ?_
        refine va_get (D := D) (ci := 6) (v := .ref anT) (C := RX7) (T := TX7) (N := 5) hx hb hts iw_X7_slowest_X7 hown hK.1 hP 0 rfl rfl 1 (by decide) (hts (.fieldLink RX7 19 "PinDeck" "now" "LPinDeck$State;") (by decide +kernel)) (fun _ h9 => h9) rfl dX7_slowest_9 ?_
        refine lv_iload_n hx hb dX7_slowest_12 rfl (lv_at hl 1 rfl) ?_
        obtain ⟨o13, ho13, hq⟩ := kbind hq
        refine kc_Vi (av := [.int x1]) (rest := []) hF hK hG hA (mk_X6_stops l D cI anT anP anS anSe H.size nsto ndro nfou nse x1 o13 ho13) (cwV 1 hts gX7_slowest_X6_stops rfl rfl rfl (by decide +kernel) ⟨Nat.le_of_ble_eq_true rfl, Nat.le_of_ble_eq_true rfl⟩) hP hD hS [1, 2] (by decide) rfl rfl 0 rfl rfl rfl hl.1 rfl (Nat.le_of_ble_eq_true rfl) ⟨Nat.zero_le _, Nat.zero_le _⟩ dX7_slowest_13 (fun H locs hP hD hS => ?_)
        have hP : va_P D vwCl [(aX, .inr (6, [.ref aG, .ref anT, .ref atT, .ref aH, .ref aL])), (anT, .inr (5, [.ref anP, .ref anS, .ref anSe, .int nsto, .int ndro, .int nfou])), (anSe, .inl (cI 0, 3, .inl nse))] H := hP
        have hD : va_D A [(aX, .inr (6, [.ref aG, .ref anT, .ref atT, .ref aH, .ref aL])), (anT, .inr (5, [.ref anP, .ref anS, .ref anSe, .int nsto, .int ndro, .int nfou])), (anSe, .inl (cI 0, 3, .inl nse))] := hD
        refine lv_if_eq (tgt := 25) hx hb dX7_slowest_16 (by decide) (fun c9 => ?_) (fun c9 => ?_)
        · have hq := kite_t c9 hq
          exact b_25  _ _ _ x1 hq hP hS (lv_sub hl [1] rfl)
        · have hq := kite_f c9 hq
          refine lv_iinc (v := (x1 + 1)) (lv' := [(1, .int (x1 + 1)), (0, .ref aX)]) hx hb dX7_slowest_19 hl (k := 1) rfl rfl (by decide) rfl (fun ls hl => ?_)
          refine lv_goto (tgt := 2) hx hb dX7_slowest_22 (by decide) ?_
          exact ih _ _ _ (x1 + 1) hq hP hS (lv_sub hl [1, 0] rfl)
  refine lv_iconst (v := 1) hx hb dX7_slowest_0 (by decide) ?_
  refine lv_istore_n (lv' := [(1, .int (1 : Int32)), (0, .ref aX)]) hx hb dX7_slowest_1 rfl hl (by decide) rfl (fun ls hl => ?_)
  exact b_2 4096 _ _ _ (1 : Int32) hq hP hS (lv_sub hl [1, 0] rfl)

def fn_X7_drops (ntold : Int32) (nle : kF) (nse : kF) : Option (Int32) :=
  (fn_X6_settingAt nse (2 : Int32)).bind fun o12 => (fn_X2_dropSet ntold nle o12).bind fun o15 => some (o15)
theorem iw_X7_drops_X6 : ∀ w ∈ wsX60, w ∈ wsX7_drops := by decide +kernel
theorem iw_X7_drops_X7 : ∀ w ∈ wsX70, w ∈ wsX7_drops := by decide +kernel
set_option maxHeartbeats 4000000 in
set_option maxRecDepth 100000 in
theorem mk_X7_drops (l : Launch) (D : va_G) (cI : Nat → ClassId) (aX aG anT atT aH aL anP anS anSe anLe anSh : Nat) (sz : Nat) (nsto : Int32) (ndro : Int32) (nfou : Int32) (ntold : Int32) (nwl : Int32) (nwr : Int32) (nle : kF) (nse : kF) (o : Int32) (hq : fn_X7_drops ntold nle nse = some o) : Met l yX7_drops wsX7_drops ({ frames := 2, cells := 0, slots := 0, locals := 44 }) (kPc D cI [(aX, .inr (6, [.ref aG, .ref anT, .ref atT, .ref aH, .ref aL])), (anT, .inr (5, [.ref anP, .ref anS, .ref anSe, .int nsto, .int ndro, .int nfou])), (anP, .inr (2, [.ref anLe, .ref anSh, .int ntold, .int nwl, .int nwr])), (anLe, .inl (cI 0, 10, .inl nle)), (anSe, .inl (cI 0, 3, .inl nse))] sz [.ref aX]) (kQi D [(aX, .inr (6, [.ref aG, .ref anT, .ref atT, .ref aH, .ref aL])), (anT, .inr (5, [.ref anP, .ref anS, .ref anSe, .int nsto, .int ndro, .int nfou])), (anP, .inr (2, [.ref anLe, .ref anSh, .int ntold, .int nwl, .int nwr])), (anLe, .inl (cI 0, 10, .inl nle)), (anSe, .inl (cI 0, 3, .inl nse))] [(aX, .inr (6, [.ref aG, .ref anT, .ref atT, .ref aH, .ref aL])), (anT, .inr (5, [.ref anP, .ref anS, .ref anSe, .int nsto, .int ndro, .int nfou])), (anP, .inr (2, [.ref anLe, .ref anSh, .int ntold, .int nwl, .int nwr])), (anLe, .inl (cI 0, 10, .inl nle)), (anSe, .inl (cI 0, 3, .inl nse))] sz o) 0 0 (va_A [(aX, .inr (6, [.ref aG, .ref anT, .ref atT, .ref aH, .ref aL])), (anT, .inr (5, [.ref anP, .ref anS, .ref anSe, .int nsto, .int ndro, .int nfou])), (anP, .inr (2, [.ref anLe, .ref anSh, .int ntold, .int nwl, .int nwr])), (anLe, .inl (cI 0, 10, .inl nle)), (anSe, .inl (cI 0, 3, .inl nse))] sz) := by
  refine kM_i (cc := cX7_drops) (maxL := 1) (by decide +kernel) rfl (Nat.le_of_ble_eq_true rfl) ?_
  intro p e s m args below meth c A Q hF hK hG hD hA hend ls hP hS hl
  obtain ⟨hx, hb, hml, hown, hts⟩ := id hF
  have hl : lv_has ls 1 [(0, .ref aX)] := hl
  refine lv_aload_n hx hb dX7_drops_0 rfl (lv_at hl 0 rfl) ?_
  refine va_get (D := D) (ci := 6) (v := .ref anT) (C := RX7) (T := TX7) (N := 5) hx hb hts iw_X7_drops_X7 hown hK.1 hP 0 rfl rfl 1 (by decide) (hts (.fieldLink RX7 19 "PinDeck" "now" "LPinDeck$State;") (by decide +kernel)) (fun _ h9 => h9) rfl dX7_drops_1 ?_
  refine va_getN (D := D) (ci := 5) (v := .ref anP) (C := RX6) (T := TX6) (N := 6) hx hb hts iw_X7_drops_X6 hown hK.1 hP 1 rfl rfl 0 (by decide) (hK.2.at (w := .fieldLinkNest "PinDeck" 108 "PinDeck$State" "pins" "LPinDeck$Pins;" "PinDeck") (by decide +kernel)) (fun _ h9 => h9) rfl dX7_drops_4 ?_
  refine lv_aload_n hx hb dX7_drops_7 rfl (lv_at hl 0 rfl) ?_
  refine va_get (D := D) (ci := 6) (v := .ref anT) (C := RX7) (T := TX7) (N := 5) hx hb hts iw_X7_drops_X7 hown hK.1 hP 0 rfl rfl 1 (by decide) (hts (.fieldLink RX7 19 "PinDeck" "now" "LPinDeck$State;") (by decide +kernel)) (fun _ h9 => h9) rfl dX7_drops_8 ?_
  refine lv_iconst (v := 2) hx hb dX7_drops_11 (by decide) ?_
  obtain ⟨o12, ho12, hq⟩ := kbind hq
  refine kc_Vi (av := [.int (2 : Int32)]) (rest := [.ref anP]) hF hK hG hA (mk_X6_settingAt l D cI anT anP anS anSe s.heap.size nsto ndro nfou nse (2 : Int32) o12 ho12) (cwV 1 hts gX7_drops_X6_settingAt rfl rfl rfl (by decide +kernel) ⟨Nat.le_of_ble_eq_true rfl, Nat.le_of_ble_eq_true rfl⟩) hP hD hS [1, 4] (by decide) rfl rfl 0 rfl rfl rfl hl.1 rfl (Nat.le_of_ble_eq_true rfl) ⟨Nat.zero_le _, Nat.zero_le _⟩ dX7_drops_12 (fun H locs hP hD hS => ?_)
  have hP : va_P D vwCl [(aX, .inr (6, [.ref aG, .ref anT, .ref atT, .ref aH, .ref aL])), (anT, .inr (5, [.ref anP, .ref anS, .ref anSe, .int nsto, .int ndro, .int nfou])), (anP, .inr (2, [.ref anLe, .ref anSh, .int ntold, .int nwl, .int nwr])), (anLe, .inl (cI 0, 10, .inl nle)), (anSe, .inl (cI 0, 3, .inl nse))] H := hP
  have hD : va_D A [(aX, .inr (6, [.ref aG, .ref anT, .ref atT, .ref aH, .ref aL])), (anT, .inr (5, [.ref anP, .ref anS, .ref anSe, .int nsto, .int ndro, .int nfou])), (anP, .inr (2, [.ref anLe, .ref anSh, .int ntold, .int nwl, .int nwr])), (anLe, .inl (cI 0, 10, .inl nle)), (anSe, .inl (cI 0, 3, .inl nse))] := hD
  obtain ⟨o15, ho15, hq⟩ := kbind hq
  refine kc_Vi (av := [.int o12]) (rest := []) hF hK hG hA (mk_X2_dropSet l D cI anP anLe anSh H.size ntold nwl nwr nle o12 o15 ho15) (cwV 1 hts gX7_drops_X2_dropSet rfl rfl rfl (by decide +kernel) ⟨Nat.le_of_ble_eq_true rfl, Nat.le_of_ble_eq_true rfl⟩) hP hD hS [2, 3] (by decide) rfl rfl 0 rfl rfl rfl hl.1 rfl (Nat.le_of_ble_eq_true rfl) ⟨Nat.zero_le _, Nat.zero_le _⟩ dX7_drops_15 (fun H locs hP hD hS => ?_)
  have hP : va_P D vwCl [(aX, .inr (6, [.ref aG, .ref anT, .ref atT, .ref aH, .ref aL])), (anT, .inr (5, [.ref anP, .ref anS, .ref anSe, .int nsto, .int ndro, .int nfou])), (anP, .inr (2, [.ref anLe, .ref anSh, .int ntold, .int nwl, .int nwr])), (anLe, .inl (cI 0, 10, .inl nle)), (anSe, .inl (cI 0, 3, .inl nse))] H := hP
  have hD : va_D A [(aX, .inr (6, [.ref aG, .ref anT, .ref atT, .ref aH, .ref aL])), (anT, .inr (5, [.ref anP, .ref anS, .ref anSe, .int nsto, .int ndro, .int nfou])), (anP, .inr (2, [.ref anLe, .ref anSh, .int ntold, .int nwl, .int nwr])), (anLe, .inl (cI 0, 10, .inl nle)), (anSe, .inl (cI 0, 3, .inl nse))] := hD
  have ho := Option.some.inj hq
  subst ho
  exact hend _ _ _ _ hP hS dX7_drops_18

def fn_X7_takeTurn_127 (tsto : Int32) (tdro : Int32) (tfou : Int32) (ttold : Int32) (twl : Int32) (twr : Int32) (tle : kF) (tsh : kF) (trolls : Int32) (tfrm : Int32) (ttk : kF) (tsr : kF) (tse : kF) : Option (Int32 × Int32 × Int32 × Int32 × Int32 × Int32 × kF × kF × Int32 × Int32 × kF × kF × kF) :=
  some (tsto, tdro, tfou, ttold, twl, twr, tle, tsh, trolls, tfrm, ttk, tsr, tse)
def fn_X7_takeTurn_123 (tsto : Int32) (tdro : Int32) (tfou : Int32) (ttold : Int32) (twl : Int32) (twr : Int32) (tle : kF) (tsh : kF) (trolls : Int32) (tfrm : Int32) (ttk : kF) (tsr : kF) (tse : kF) (k1 : Int32) (k2 : Int32) (k3 : Int32) (k4 : Int32) : Option (Int32 × Int32 × Int32 × Int32 × Int32 × Int32 × kF × kF × Int32 × Int32 × kF × kF × kF) :=
  (fn_X6_tryRoll tsto tdro tfou ttold twl twr tle tsh trolls tfrm ttk tsr tse k1 k2 k3 k4).bind fun o123 => fn_X7_takeTurn_127 o123.2.1 o123.2.2.1 o123.2.2.2.1 o123.2.2.2.2.1 o123.2.2.2.2.2.1 o123.2.2.2.2.2.2.1 o123.2.2.2.2.2.2.2.1 o123.2.2.2.2.2.2.2.2.1 o123.2.2.2.2.2.2.2.2.2.1 o123.2.2.2.2.2.2.2.2.2.2.1 o123.2.2.2.2.2.2.2.2.2.2.2.1 o123.2.2.2.2.2.2.2.2.2.2.2.2 tse
def fn_X7_takeTurn (tsto : Int32) (tdro : Int32) (tfou : Int32) (ttold : Int32) (twl : Int32) (twr : Int32) (tle : kF) (tsh : kF) (trolls : Int32) (tfrm : Int32) (ttk : kF) (tsr : kF) (tse : kF) (x1 : Int32) : Option (Int32 × Int32 × Int32 × Int32 × Int32 × Int32 × kF × kF × Int32 × Int32 × kF × kF × kF) :=
  if (x1 - x1 / (8 : Int32) * (8 : Int32)) = 0 then (fn_X6_tryTouch tle ((x1 / (8 : Int32)) - (x1 / (8 : Int32)) / (10 : Int32) * (10 : Int32)) (((x1 / (8 : Int32)) / (16 : Int32)) - ((x1 / (8 : Int32)) / (16 : Int32)) / (4 : Int32) * (4 : Int32))).bind fun o50 => fn_X7_takeTurn_127 tsto tdro tfou ttold twl twr o50.2 tsh trolls tfrm ttk tsr tse else if (x1 - x1 / (8 : Int32) * (8 : Int32)) = 1 then (fn_X6_trySet tse ((1 : Int32) + ((x1 / (8 : Int32)) - (x1 / (8 : Int32)) / (2 : Int32) * (2 : Int32))) (((x1 / (8 : Int32)) / (2 : Int32)) - ((x1 / (8 : Int32)) / (2 : Int32)) / (4 : Int32) * (4 : Int32))).bind fun o71 => fn_X7_takeTurn_127 tsto tdro tfou ttold twl twr tle tsh trolls tfrm ttk tsr o71.2 else if (((x1 / (8 : Int32)) / (8192 : Int32)) - ((x1 / (8 : Int32)) / (8192 : Int32)) / (16 : Int32) * (16 : Int32)) = 0 then fn_X7_takeTurn_123 tsto tdro tfou ttold twl twr tle tsh trolls tfrm ttk tsr tse ((10 : Int32) + ((x1 / (8 : Int32)) - (x1 / (8 : Int32)) / (21 : Int32) * (21 : Int32))) ((((x1 / (8 : Int32)) / (32 : Int32)) - ((x1 / (8 : Int32)) / (32 : Int32)) / (5 : Int32) * (5 : Int32)) - (2 : Int32)) ((1 : Int32) + (((x1 / (8 : Int32)) / (256 : Int32)) - ((x1 / (8 : Int32)) / (256 : Int32)) / (30 : Int32) * (30 : Int32))) (1 : Int32) else fn_X7_takeTurn_123 tsto tdro tfou ttold twl twr tle tsh trolls tfrm ttk tsr tse ((10 : Int32) + ((x1 / (8 : Int32)) - (x1 / (8 : Int32)) / (21 : Int32) * (21 : Int32))) ((((x1 / (8 : Int32)) / (32 : Int32)) - ((x1 / (8 : Int32)) / (32 : Int32)) / (5 : Int32) * (5 : Int32)) - (2 : Int32)) ((1 : Int32) + (((x1 / (8 : Int32)) / (256 : Int32)) - ((x1 / (8 : Int32)) / (256 : Int32)) / (30 : Int32) * (30 : Int32))) (0 : Int32)
theorem iw_X7_takeTurn_X7 : ∀ w ∈ wsX70, w ∈ wsX7_takeTurn := by decide +kernel
set_option maxHeartbeats 4000000 in
set_option maxRecDepth 100000 in
theorem mk_X7_takeTurn (l : Launch) (D : va_G) (cI : Nat → ClassId) (aX aG anT atT aH aL atP atS atSe atLe atSh atTk atSr : Nat) (sz : Nat) (tsto : Int32) (tdro : Int32) (tfou : Int32) (ttold : Int32) (twl : Int32) (twr : Int32) (tle : kF) (tsh : kF) (trolls : Int32) (tfrm : Int32) (ttk : kF) (tsr : kF) (tse : kF) (x1 : Int32) (o : Int32 × Int32 × Int32 × Int32 × Int32 × Int32 × kF × kF × Int32 × Int32 × kF × kF × kF) (hq : fn_X7_takeTurn tsto tdro tfou ttold twl twr tle tsh trolls tfrm ttk tsr tse x1 = some o) : Met l yX7_takeTurn wsX7_takeTurn ({ frames := 5, cells := 0, slots := 0, locals := 125 }) (kPc D cI [(aX, .inr (6, [.ref aG, .ref anT, .ref atT, .ref aH, .ref aL])), (atT, .inr (5, [.ref atP, .ref atS, .ref atSe, .int tsto, .int tdro, .int tfou])), (atP, .inr (2, [.ref atLe, .ref atSh, .int ttold, .int twl, .int twr])), (atLe, .inl (cI 0, 10, .inl tle)), (atSh, .inl (cI 0, 10, .inl tsh)), (atS, .inr (3, [.ref atTk, .ref atSr, .int trolls, .int tfrm])), (atTk, .inl (cI 0, 21, .inl ttk)), (atSr, .inl (cI 0, 11, .inl tsr)), (atSe, .inl (cI 0, 3, .inl tse))] sz [.ref aX, .int x1]) (kQv D [(aX, .inr (6, [.ref aG, .ref anT, .ref atT, .ref aH, .ref aL])), (atT, .inr (5, [.ref atP, .ref atS, .ref atSe, .int tsto, .int tdro, .int tfou])), (atP, .inr (2, [.ref atLe, .ref atSh, .int ttold, .int twl, .int twr])), (atLe, .inl (cI 0, 10, .inl tle)), (atSh, .inl (cI 0, 10, .inl tsh)), (atS, .inr (3, [.ref atTk, .ref atSr, .int trolls, .int tfrm])), (atTk, .inl (cI 0, 21, .inl ttk)), (atSr, .inl (cI 0, 11, .inl tsr)), (atSe, .inl (cI 0, 3, .inl tse))] [(aX, .inr (6, [.ref aG, .ref anT, .ref atT, .ref aH, .ref aL])), (atT, .inr (5, [.ref atP, .ref atS, .ref atSe, .int o.1, .int o.2.1, .int o.2.2.1])), (atP, .inr (2, [.ref atLe, .ref atSh, .int o.2.2.2.1, .int o.2.2.2.2.1, .int o.2.2.2.2.2.1])), (atLe, .inl (cI 0, 10, .inl o.2.2.2.2.2.2.1)), (atSh, .inl (cI 0, 10, .inl o.2.2.2.2.2.2.2.1)), (atS, .inr (3, [.ref atTk, .ref atSr, .int o.2.2.2.2.2.2.2.2.1, .int o.2.2.2.2.2.2.2.2.2.1])), (atTk, .inl (cI 0, 21, .inl o.2.2.2.2.2.2.2.2.2.2.1)), (atSr, .inl (cI 0, 11, .inl o.2.2.2.2.2.2.2.2.2.2.2.1)), (atSe, .inl (cI 0, 3, .inl o.2.2.2.2.2.2.2.2.2.2.2.2))] sz) 0 0 (va_A [(aX, .inr (6, [.ref aG, .ref anT, .ref atT, .ref aH, .ref aL])), (atT, .inr (5, [.ref atP, .ref atS, .ref atSe, .int tsto, .int tdro, .int tfou])), (atP, .inr (2, [.ref atLe, .ref atSh, .int ttold, .int twl, .int twr])), (atLe, .inl (cI 0, 10, .inl tle)), (atSh, .inl (cI 0, 10, .inl tsh)), (atS, .inr (3, [.ref atTk, .ref atSr, .int trolls, .int tfrm])), (atTk, .inl (cI 0, 21, .inl ttk)), (atSr, .inl (cI 0, 11, .inl tsr)), (atSe, .inl (cI 0, 3, .inl tse))] sz) := by
  refine kM_v (cc := cX7_takeTurn) (maxL := 3) (by decide +kernel) rfl (Nat.le_of_ble_eq_true rfl) ?_
  intro p e s m args below meth c A Q hF hK hG hD hA hend ls hP hS hl
  obtain ⟨hx, hb, hml, hown, hts⟩ := id hF
  have hl : lv_has ls 3 [(0, .ref aX), (1, .int x1)] := hl
  have b_127 : ∀ (H : Heap) (locs : List Loc) (ls : Array Slot) (tsto : Int32) (tdro : Int32) (tfou : Int32) (ttold : Int32) (twl : Int32) (twr : Int32) (tle : kF) (tsh : kF) (trolls : Int32) (tfrm : Int32) (ttk : kF) (tsr : kF) (tse : kF), fn_X7_takeTurn_127 tsto tdro tfou ttold twl twr tle tsh trolls tfrm ttk tsr tse = some o → va_P D vwCl [(aX, .inr (6, [.ref aG, .ref anT, .ref atT, .ref aH, .ref aL])), (atT, .inr (5, [.ref atP, .ref atS, .ref atSe, .int tsto, .int tdro, .int tfou])), (atP, .inr (2, [.ref atLe, .ref atSh, .int ttold, .int twl, .int twr])), (atLe, .inl (cI 0, 10, .inl tle)), (atSh, .inl (cI 0, 10, .inl tsh)), (atS, .inr (3, [.ref atTk, .ref atSr, .int trolls, .int tfrm])), (atTk, .inl (cI 0, 21, .inl ttk)), (atSr, .inl (cI 0, 11, .inl tsr)), (atSe, .inl (cI 0, 3, .inl tse))] H → va_D A [(aX, .inr (6, [.ref aG, .ref anT, .ref atT, .ref aH, .ref aL])), (atT, .inr (5, [.ref atP, .ref atS, .ref atSe, .int tsto, .int tdro, .int tfou])), (atP, .inr (2, [.ref atLe, .ref atSh, .int ttold, .int twl, .int twr])), (atLe, .inl (cI 0, 10, .inl tle)), (atSh, .inl (cI 0, 10, .inl tsh)), (atS, .inr (3, [.ref atTk, .ref atSr, .int trolls, .int tfrm])), (atTk, .inl (cI 0, 21, .inl ttk)), (atSr, .inl (cI 0, 11, .inl tsr)), (atSe, .inl (cI 0, 3, .inl tse))] → va_S A s.heap H locs → lv_has ls 3 [] → W p l e { frames := 5, cells := 0, slots := 0, locals := 125 } s m args below meth c H locs 0 0 Q (F0 m 127 ls []) := by
    intro H locs ls tsto tdro tfou ttold twl twr tle tsh trolls tfrm ttk tsr tse
    intro hq hP hD hS hl
    have ho := Option.some.inj hq
    subst ho
    exact hend _ _ _ _ hP hS dX7_takeTurn_127
  have b_123 : ∀ (H : Heap) (locs : List Loc) (ls : Array Slot) (tsto : Int32) (tdro : Int32) (tfou : Int32) (ttold : Int32) (twl : Int32) (twr : Int32) (tle : kF) (tsh : kF) (trolls : Int32) (tfrm : Int32) (ttk : kF) (tsr : kF) (tse : kF) (k1 : Int32) (k2 : Int32) (k3 : Int32) (k4 : Int32), fn_X7_takeTurn_123 tsto tdro tfou ttold twl twr tle tsh trolls tfrm ttk tsr tse k1 k2 k3 k4 = some o → va_P D vwCl [(aX, .inr (6, [.ref aG, .ref anT, .ref atT, .ref aH, .ref aL])), (atT, .inr (5, [.ref atP, .ref atS, .ref atSe, .int tsto, .int tdro, .int tfou])), (atP, .inr (2, [.ref atLe, .ref atSh, .int ttold, .int twl, .int twr])), (atLe, .inl (cI 0, 10, .inl tle)), (atSh, .inl (cI 0, 10, .inl tsh)), (atS, .inr (3, [.ref atTk, .ref atSr, .int trolls, .int tfrm])), (atTk, .inl (cI 0, 21, .inl ttk)), (atSr, .inl (cI 0, 11, .inl tsr)), (atSe, .inl (cI 0, 3, .inl tse))] H → va_D A [(aX, .inr (6, [.ref aG, .ref anT, .ref atT, .ref aH, .ref aL])), (atT, .inr (5, [.ref atP, .ref atS, .ref atSe, .int tsto, .int tdro, .int tfou])), (atP, .inr (2, [.ref atLe, .ref atSh, .int ttold, .int twl, .int twr])), (atLe, .inl (cI 0, 10, .inl tle)), (atSh, .inl (cI 0, 10, .inl tsh)), (atS, .inr (3, [.ref atTk, .ref atSr, .int trolls, .int tfrm])), (atTk, .inl (cI 0, 21, .inl ttk)), (atSr, .inl (cI 0, 11, .inl tsr)), (atSe, .inl (cI 0, 3, .inl tse))] → va_S A s.heap H locs → lv_has ls 3 [] → W p l e { frames := 5, cells := 0, slots := 0, locals := 125 } s m args below meth c H locs 0 0 Q (F0 m 123 ls [.int k4, .int k3, .int k2, .int k1, .ref atT]) := by
    intro H locs ls tsto tdro tfou ttold twl twr tle tsh trolls tfrm ttk tsr tse k1 k2 k3 k4
    intro hq hP hD hS hl
    obtain ⟨o123, ho123, hq⟩ := kbind hq
    refine kc_Vi (av := [.int k1, .int k2, .int k3, .int k4]) (rest := []) hF hK hG hA (mk_X6_tryRoll l D cI atT atP atS atSe atLe atSh atTk atSr H.size tsto tdro tfou ttold twl twr tle tsh trolls tfrm ttk tsr tse k1 k2 k3 k4 o123 ho123) (cwV 4 hts gX7_takeTurn_X6_tryRoll rfl rfl rfl (by decide +kernel) ⟨Nat.le_of_ble_eq_true rfl, Nat.le_of_ble_eq_true rfl⟩) hP hD hS [1, 2, 3, 4, 5, 6, 7, 8] (by decide) rfl rfl 0 rfl rfl rfl hl.1 rfl (Nat.le_of_ble_eq_true rfl) ⟨Nat.zero_le _, Nat.zero_le _⟩ dX7_takeTurn_123 (fun H locs hP hD hS => ?_)
    have hP : va_P D vwCl [(aX, .inr (6, [.ref aG, .ref anT, .ref atT, .ref aH, .ref aL])), (atT, .inr (5, [.ref atP, .ref atS, .ref atSe, .int o123.2.1, .int o123.2.2.1, .int o123.2.2.2.1])), (atP, .inr (2, [.ref atLe, .ref atSh, .int o123.2.2.2.2.1, .int o123.2.2.2.2.2.1, .int o123.2.2.2.2.2.2.1])), (atLe, .inl (cI 0, 10, .inl o123.2.2.2.2.2.2.2.1)), (atSh, .inl (cI 0, 10, .inl o123.2.2.2.2.2.2.2.2.1)), (atS, .inr (3, [.ref atTk, .ref atSr, .int o123.2.2.2.2.2.2.2.2.2.1, .int o123.2.2.2.2.2.2.2.2.2.2.1])), (atTk, .inl (cI 0, 21, .inl o123.2.2.2.2.2.2.2.2.2.2.2.1)), (atSr, .inl (cI 0, 11, .inl o123.2.2.2.2.2.2.2.2.2.2.2.2)), (atSe, .inl (cI 0, 3, .inl tse))] H := hP
    have hD : va_D A [(aX, .inr (6, [.ref aG, .ref anT, .ref atT, .ref aH, .ref aL])), (atT, .inr (5, [.ref atP, .ref atS, .ref atSe, .int o123.2.1, .int o123.2.2.1, .int o123.2.2.2.1])), (atP, .inr (2, [.ref atLe, .ref atSh, .int o123.2.2.2.2.1, .int o123.2.2.2.2.2.1, .int o123.2.2.2.2.2.2.1])), (atLe, .inl (cI 0, 10, .inl o123.2.2.2.2.2.2.2.1)), (atSh, .inl (cI 0, 10, .inl o123.2.2.2.2.2.2.2.2.1)), (atS, .inr (3, [.ref atTk, .ref atSr, .int o123.2.2.2.2.2.2.2.2.2.1, .int o123.2.2.2.2.2.2.2.2.2.2.1])), (atTk, .inl (cI 0, 21, .inl o123.2.2.2.2.2.2.2.2.2.2.2.1)), (atSr, .inl (cI 0, 11, .inl o123.2.2.2.2.2.2.2.2.2.2.2.2)), (atSe, .inl (cI 0, 3, .inl tse))] := hD
    refine lv_pop hx hb dX7_takeTurn_126 rfl ?_
    exact b_127  _ _ _ o123.2.1 o123.2.2.1 o123.2.2.2.1 o123.2.2.2.2.1 o123.2.2.2.2.2.1 o123.2.2.2.2.2.2.1 o123.2.2.2.2.2.2.2.1 o123.2.2.2.2.2.2.2.2.1 o123.2.2.2.2.2.2.2.2.2.1 o123.2.2.2.2.2.2.2.2.2.2.1 o123.2.2.2.2.2.2.2.2.2.2.2.1 o123.2.2.2.2.2.2.2.2.2.2.2.2 tse hq hP hD hS (lv_sub hl [] rfl)
  refine lv_iload_n hx hb dX7_takeTurn_0 rfl (lv_at hl 1 rfl) ?_
  refine lv_bipush (v := 8) hx hb dX7_takeTurn_1 (by decide) ?_
  refine lv_idiv hx hb dX7_takeTurn_3 (by decide) ?_
  refine lv_istore_n (lv' := [(2, .int (x1 / (8 : Int32))), (0, .ref aX), (1, .int x1)]) hx hb dX7_takeTurn_4 rfl hl (by decide) rfl (fun ls hl => ?_)
  refine lv_iload_n hx hb dX7_takeTurn_5 rfl (lv_at hl 2 rfl) ?_
  refine lv_bipush (v := 8) hx hb dX7_takeTurn_6 (by decide) ?_
  refine lv_irem hx hb dX7_takeTurn_8 (by decide) ?_
  by_cases c0 : (x1 - x1 / (8 : Int32) * (8 : Int32)) = 0
  · have hq := kite_t c0 hq
    refine lv_lookup (off := 27) (tgt := 36) hx hb dX7_takeTurn_9 (by decide +kernel) (by rw [c0]; decide +kernel) (by decide) ?_
    refine lv_aload_n hx hb dX7_takeTurn_36 rfl (lv_at hl 1 rfl) ?_
    refine va_get (D := D) (ci := 6) (v := .ref atT) (C := RX7) (T := TX7) (N := 5) hx hb hts iw_X7_takeTurn_X7 hown hK.1 hP 0 rfl rfl 2 (by decide) (hts (.fieldLink RX7 23 "PinDeck" "trial" "LPinDeck$State;") (by decide +kernel)) (fun _ h9 => h9) rfl dX7_takeTurn_37 ?_
    refine lv_iload_n hx hb dX7_takeTurn_40 rfl (lv_at hl 0 rfl) ?_
    refine lv_bipush (v := 10) hx hb dX7_takeTurn_41 (by decide) ?_
    refine lv_irem hx hb dX7_takeTurn_43 (by decide) ?_
    refine lv_iload_n hx hb dX7_takeTurn_44 rfl (lv_at hl 0 rfl) ?_
    refine lv_bipush (v := 16) hx hb dX7_takeTurn_45 (by decide) ?_
    refine lv_idiv hx hb dX7_takeTurn_47 (by decide) ?_
    refine lv_iconst (v := 4) hx hb dX7_takeTurn_48 (by decide) ?_
    refine lv_irem hx hb dX7_takeTurn_49 (by decide) ?_
    obtain ⟨o50, ho50, hq⟩ := kbind hq
    refine kc_Vi (av := [.int ((x1 / (8 : Int32)) - (x1 / (8 : Int32)) / (10 : Int32) * (10 : Int32)), .int (((x1 / (8 : Int32)) / (16 : Int32)) - ((x1 / (8 : Int32)) / (16 : Int32)) / (4 : Int32) * (4 : Int32))]) (rest := []) hF hK hG hA (mk_X6_tryTouch l D cI atT atP atS atSe atLe atSh s.heap.size tsto tdro tfou ttold twl twr tle ((x1 / (8 : Int32)) - (x1 / (8 : Int32)) / (10 : Int32) * (10 : Int32)) (((x1 / (8 : Int32)) / (16 : Int32)) - ((x1 / (8 : Int32)) / (16 : Int32)) / (4 : Int32) * (4 : Int32)) o50 ho50) (cwV 2 hts gX7_takeTurn_X6_tryTouch rfl rfl rfl (by decide +kernel) ⟨Nat.le_of_ble_eq_true rfl, Nat.le_of_ble_eq_true rfl⟩) hP hD hS [1, 2, 3] (by decide) rfl rfl 0 rfl rfl rfl hl.1 rfl (Nat.le_of_ble_eq_true rfl) ⟨Nat.zero_le _, Nat.zero_le _⟩ dX7_takeTurn_50 (fun H locs hP hD hS => ?_)
    have hP : va_P D vwCl [(aX, .inr (6, [.ref aG, .ref anT, .ref atT, .ref aH, .ref aL])), (atT, .inr (5, [.ref atP, .ref atS, .ref atSe, .int tsto, .int tdro, .int tfou])), (atP, .inr (2, [.ref atLe, .ref atSh, .int ttold, .int twl, .int twr])), (atLe, .inl (cI 0, 10, .inl o50.2)), (atSh, .inl (cI 0, 10, .inl tsh)), (atS, .inr (3, [.ref atTk, .ref atSr, .int trolls, .int tfrm])), (atTk, .inl (cI 0, 21, .inl ttk)), (atSr, .inl (cI 0, 11, .inl tsr)), (atSe, .inl (cI 0, 3, .inl tse))] H := hP
    have hD : va_D A [(aX, .inr (6, [.ref aG, .ref anT, .ref atT, .ref aH, .ref aL])), (atT, .inr (5, [.ref atP, .ref atS, .ref atSe, .int tsto, .int tdro, .int tfou])), (atP, .inr (2, [.ref atLe, .ref atSh, .int ttold, .int twl, .int twr])), (atLe, .inl (cI 0, 10, .inl o50.2)), (atSh, .inl (cI 0, 10, .inl tsh)), (atS, .inr (3, [.ref atTk, .ref atSr, .int trolls, .int tfrm])), (atTk, .inl (cI 0, 21, .inl ttk)), (atSr, .inl (cI 0, 11, .inl tsr)), (atSe, .inl (cI 0, 3, .inl tse))] := hD
    refine lv_pop hx hb dX7_takeTurn_53 rfl ?_
    refine lv_goto (tgt := 127) hx hb dX7_takeTurn_54 (by decide) ?_
    exact b_127  _ _ _ tsto tdro tfou ttold twl twr o50.2 tsh trolls tfrm ttk tsr tse hq hP hD hS (lv_sub hl [] rfl)
  have hq := kite_f c0 hq
  by_cases c1 : (x1 - x1 / (8 : Int32) * (8 : Int32)) = 1
  · have hq := kite_t c1 hq
    refine lv_lookup (off := 48) (tgt := 57) hx hb dX7_takeTurn_9 (by decide +kernel) (by rw [c1]; decide +kernel) (by decide) ?_
    refine lv_aload_n hx hb dX7_takeTurn_57 rfl (lv_at hl 1 rfl) ?_
    refine va_get (D := D) (ci := 6) (v := .ref atT) (C := RX7) (T := TX7) (N := 5) hx hb hts iw_X7_takeTurn_X7 hown hK.1 hP 0 rfl rfl 2 (by decide) (hts (.fieldLink RX7 23 "PinDeck" "trial" "LPinDeck$State;") (by decide +kernel)) (fun _ h9 => h9) rfl dX7_takeTurn_58 ?_
    refine lv_iconst (v := 1) hx hb dX7_takeTurn_61 (by decide) ?_
    refine lv_iload_n hx hb dX7_takeTurn_62 rfl (lv_at hl 0 rfl) ?_
    refine lv_iconst (v := 2) hx hb dX7_takeTurn_63 (by decide) ?_
    refine lv_irem hx hb dX7_takeTurn_64 (by decide) ?_
    refine lv_iadd hx hb dX7_takeTurn_65 ?_
    refine lv_iload_n hx hb dX7_takeTurn_66 rfl (lv_at hl 0 rfl) ?_
    refine lv_iconst (v := 2) hx hb dX7_takeTurn_67 (by decide) ?_
    refine lv_idiv hx hb dX7_takeTurn_68 (by decide) ?_
    refine lv_iconst (v := 4) hx hb dX7_takeTurn_69 (by decide) ?_
    refine lv_irem hx hb dX7_takeTurn_70 (by decide) ?_
    obtain ⟨o71, ho71, hq⟩ := kbind hq
    refine kc_Vi (av := [.int ((1 : Int32) + ((x1 / (8 : Int32)) - (x1 / (8 : Int32)) / (2 : Int32) * (2 : Int32))), .int (((x1 / (8 : Int32)) / (2 : Int32)) - ((x1 / (8 : Int32)) / (2 : Int32)) / (4 : Int32) * (4 : Int32))]) (rest := []) hF hK hG hA (mk_X6_trySet l D cI atT atP atS atSe s.heap.size tsto tdro tfou tse ((1 : Int32) + ((x1 / (8 : Int32)) - (x1 / (8 : Int32)) / (2 : Int32) * (2 : Int32))) (((x1 / (8 : Int32)) / (2 : Int32)) - ((x1 / (8 : Int32)) / (2 : Int32)) / (4 : Int32) * (4 : Int32)) o71 ho71) (cwV 2 hts gX7_takeTurn_X6_trySet rfl rfl rfl (by decide +kernel) ⟨Nat.le_of_ble_eq_true rfl, Nat.le_of_ble_eq_true rfl⟩) hP hD hS [1, 8] (by decide) rfl rfl 0 rfl rfl rfl hl.1 rfl (Nat.le_of_ble_eq_true rfl) ⟨Nat.zero_le _, Nat.zero_le _⟩ dX7_takeTurn_71 (fun H locs hP hD hS => ?_)
    have hP : va_P D vwCl [(aX, .inr (6, [.ref aG, .ref anT, .ref atT, .ref aH, .ref aL])), (atT, .inr (5, [.ref atP, .ref atS, .ref atSe, .int tsto, .int tdro, .int tfou])), (atP, .inr (2, [.ref atLe, .ref atSh, .int ttold, .int twl, .int twr])), (atLe, .inl (cI 0, 10, .inl tle)), (atSh, .inl (cI 0, 10, .inl tsh)), (atS, .inr (3, [.ref atTk, .ref atSr, .int trolls, .int tfrm])), (atTk, .inl (cI 0, 21, .inl ttk)), (atSr, .inl (cI 0, 11, .inl tsr)), (atSe, .inl (cI 0, 3, .inl o71.2))] H := hP
    have hD : va_D A [(aX, .inr (6, [.ref aG, .ref anT, .ref atT, .ref aH, .ref aL])), (atT, .inr (5, [.ref atP, .ref atS, .ref atSe, .int tsto, .int tdro, .int tfou])), (atP, .inr (2, [.ref atLe, .ref atSh, .int ttold, .int twl, .int twr])), (atLe, .inl (cI 0, 10, .inl tle)), (atSh, .inl (cI 0, 10, .inl tsh)), (atS, .inr (3, [.ref atTk, .ref atSr, .int trolls, .int tfrm])), (atTk, .inl (cI 0, 21, .inl ttk)), (atSr, .inl (cI 0, 11, .inl tsr)), (atSe, .inl (cI 0, 3, .inl o71.2))] := hD
    refine lv_pop hx hb dX7_takeTurn_74 rfl ?_
    refine lv_goto (tgt := 127) hx hb dX7_takeTurn_75 (by decide) ?_
    exact b_127  _ _ _ tsto tdro tfou ttold twl twr tle tsh trolls tfrm ttk tsr o71.2 hq hP hD hS (lv_sub hl [] rfl)
  have hq := kite_f c1 hq
  have e0 : ¬ (0 : Int) = ((x1 - x1 / (8 : Int32) * (8 : Int32))).toInt := fun h9 => c0 (Int32.toInt_inj.mp (h9.symm.trans (by decide)))
  have e1 : ¬ (1 : Int) = ((x1 - x1 / (8 : Int32) * (8 : Int32))).toInt := fun h9 => c1 (Int32.toInt_inj.mp (h9.symm.trans (by decide)))
  refine lv_lookup (off := 69) (tgt := 78) hx hb dX7_takeTurn_9 (by decide +kernel) (by show (if (0 : Int) = ((x1 - x1 / (8 : Int32) * (8 : Int32))).toInt then (27 : Int) else if (1 : Int) = ((x1 - x1 / (8 : Int32) * (8 : Int32))).toInt then (48 : Int) else (69 : Int)) = (69 : Int); rw [if_neg e0, if_neg e1]) (by decide) ?_
  refine lv_aload_n hx hb dX7_takeTurn_78 rfl (lv_at hl 1 rfl) ?_
  refine va_get (D := D) (ci := 6) (v := .ref atT) (C := RX7) (T := TX7) (N := 5) hx hb hts iw_X7_takeTurn_X7 hown hK.1 hP 0 rfl rfl 2 (by decide) (hts (.fieldLink RX7 23 "PinDeck" "trial" "LPinDeck$State;") (by decide +kernel)) (fun _ h9 => h9) rfl dX7_takeTurn_79 ?_
  refine lv_bipush (v := 10) hx hb dX7_takeTurn_82 (by decide) ?_
  refine lv_iload_n hx hb dX7_takeTurn_84 rfl (lv_at hl 0 rfl) ?_
  refine lv_bipush (v := 21) hx hb dX7_takeTurn_85 (by decide) ?_
  refine lv_irem hx hb dX7_takeTurn_87 (by decide) ?_
  refine lv_iadd hx hb dX7_takeTurn_88 ?_
  refine lv_iload_n hx hb dX7_takeTurn_89 rfl (lv_at hl 0 rfl) ?_
  refine lv_bipush (v := 32) hx hb dX7_takeTurn_90 (by decide) ?_
  refine lv_idiv hx hb dX7_takeTurn_92 (by decide) ?_
  refine lv_iconst (v := 5) hx hb dX7_takeTurn_93 (by decide) ?_
  refine lv_irem hx hb dX7_takeTurn_94 (by decide) ?_
  refine lv_iconst (v := 2) hx hb dX7_takeTurn_95 (by decide) ?_
  refine lv_isub hx hb dX7_takeTurn_96 ?_
  refine lv_iconst (v := 1) hx hb dX7_takeTurn_97 (by decide) ?_
  refine lv_iload_n hx hb dX7_takeTurn_98 rfl (lv_at hl 0 rfl) ?_
  refine lv_sipush (v := 256) hx hb dX7_takeTurn_99 (by decide) ?_
  refine lv_idiv hx hb dX7_takeTurn_102 (by decide) ?_
  refine lv_bipush (v := 30) hx hb dX7_takeTurn_103 (by decide) ?_
  refine lv_irem hx hb dX7_takeTurn_105 (by decide) ?_
  refine lv_iadd hx hb dX7_takeTurn_106 ?_
  refine lv_iload_n hx hb dX7_takeTurn_107 rfl (lv_at hl 0 rfl) ?_
  refine lv_sipush (v := 8192) hx hb dX7_takeTurn_108 (by decide) ?_
  refine lv_idiv hx hb dX7_takeTurn_111 (by decide) ?_
  refine lv_bipush (v := 16) hx hb dX7_takeTurn_112 (by decide) ?_
  refine lv_irem hx hb dX7_takeTurn_114 (by decide) ?_
  refine lv_if_ne (tgt := 122) hx hb dX7_takeTurn_115 (by decide) (fun c9 => ?_) (fun c9 => ?_)
  · have hq := kite_f c9 hq
    refine lv_iconst (v := 0) hx hb dX7_takeTurn_122 (by decide) ?_
    exact b_123  _ _ _ tsto tdro tfou ttold twl twr tle tsh trolls tfrm ttk tsr tse ((10 : Int32) + ((x1 / (8 : Int32)) - (x1 / (8 : Int32)) / (21 : Int32) * (21 : Int32))) ((((x1 / (8 : Int32)) / (32 : Int32)) - ((x1 / (8 : Int32)) / (32 : Int32)) / (5 : Int32) * (5 : Int32)) - (2 : Int32)) ((1 : Int32) + (((x1 / (8 : Int32)) / (256 : Int32)) - ((x1 / (8 : Int32)) / (256 : Int32)) / (30 : Int32) * (30 : Int32))) (0 : Int32) hq hP hD hS (lv_sub hl [] rfl)
  · have hq := kite_t c9 hq
    refine lv_iconst (v := 1) hx hb dX7_takeTurn_118 (by decide) ?_
    refine lv_goto (tgt := 123) hx hb dX7_takeTurn_119 (by decide) ?_
    exact b_123  _ _ _ tsto tdro tfou ttold twl twr tle tsh trolls tfrm ttk tsr tse ((10 : Int32) + ((x1 / (8 : Int32)) - (x1 / (8 : Int32)) / (21 : Int32) * (21 : Int32))) ((((x1 / (8 : Int32)) / (32 : Int32)) - ((x1 / (8 : Int32)) / (32 : Int32)) / (5 : Int32) * (5 : Int32)) - (2 : Int32)) ((1 : Int32) + (((x1 / (8 : Int32)) / (256 : Int32)) - ((x1 / (8 : Int32)) / (256 : Int32)) / (30 : Int32) * (30 : Int32))) (1 : Int32) hq hP hD hS (lv_sub hl [] rfl)

def fn_X7_isFrame_15 (k0 : Int32) : Option (Int32) :=
  if k0 = 0 ∨ k0 = 1 then some (k0) else none
def fn_X7_isFrame_14  : Option (Int32) :=
  fn_X7_isFrame_15 (0 : Int32)
def fn_X7_isFrame (x0 : Int32) : Option (Int32) :=
  if x0 < 0 then fn_X7_isFrame_14 else if (10 : Int32) ≤ x0 then fn_X7_isFrame_14 else fn_X7_isFrame_15 (1 : Int32)
set_option maxHeartbeats 4000000 in
set_option maxRecDepth 100000 in
theorem mk_X7_isFrame (l : Launch) (D : va_G) (cI : Nat → ClassId) (sz : Nat) (x0 : Int32) (o : Int32) (hq : fn_X7_isFrame x0 = some o) : Met l yX7_isFrame wsX7_isFrame ({ frames := 0, cells := 0, slots := 0, locals := 0 }) (kPc D cI [] sz [.int x0]) (kQi D [] [] sz o) 0 0 (va_A [] sz) := by
  refine kM_z (cc := cX7_isFrame) (maxL := 1) (by decide +kernel) rfl (Nat.le_of_ble_eq_true rfl) ?_
  intro p e s m args below meth c A Q hF hK hG hD hA hend ls hP hS hl
  obtain ⟨hx, hb, hml, hown, hts⟩ := id hF
  have hl : lv_has ls 1 [(0, .int x0)] := hl
  have b_15 : ∀ (H : Heap) (locs : List Loc) (ls : Array Slot) (k0 : Int32), fn_X7_isFrame_15 k0 = some o → va_P D vwCl [] H → va_S A s.heap H locs → lv_has ls 1 [] → W p l e { frames := 0, cells := 0, slots := 0, locals := 0 } s m args below meth c H locs 0 0 Q (F0 m 15 ls [.int k0]) := by
    intro H locs ls k0
    intro hq hP hS hl
    obtain ⟨hz, hq⟩ := kite_b hq
    have ho := Option.some.inj hq
    subst ho
    exact hend _ _ _ _ hz hP hS dX7_isFrame_15
  have b_14 : ∀ (H : Heap) (locs : List Loc) (ls : Array Slot), fn_X7_isFrame_14  = some o → va_P D vwCl [] H → va_S A s.heap H locs → lv_has ls 1 [] → W p l e { frames := 0, cells := 0, slots := 0, locals := 0 } s m args below meth c H locs 0 0 Q (F0 m 14 ls []) := by
    intro H locs ls 
    intro hq hP hS hl
    refine lv_iconst (v := 0) hx hb dX7_isFrame_14 (by decide) ?_
    exact b_15  _ _ _ (0 : Int32) hq hP hS (lv_sub hl [] rfl)
  refine lv_iload_n hx hb dX7_isFrame_0 rfl (lv_at hl 0 rfl) ?_
  refine lv_if_lt (tgt := 14) hx hb dX7_isFrame_1 (by decide) (fun c9 => ?_) (fun c9 => ?_)
  · have hq := kite_t c9 hq
    exact b_14  _ _ _  hq hP hS (lv_sub hl [] rfl)
  · have hq := kite_f c9 hq
    refine lv_iload_n hx hb dX7_isFrame_4 rfl (lv_at hl 0 rfl) ?_
    refine lv_bipush (v := 10) hx hb dX7_isFrame_5 (by decide) ?_
    refine lv_icmp_ge (tgt := 14) hx hb dX7_isFrame_7 (by decide) (fun c9 => ?_) (fun c9 => ?_)
    · have hq := kite_t c9 hq
      exact b_14  _ _ _  hq hP hS (lv_sub hl [] rfl)
    · have hq := kite_f c9 hq
      refine lv_iconst (v := 1) hx hb dX7_isFrame_10 (by decide) ?_
      refine lv_goto (tgt := 15) hx hb dX7_isFrame_11 (by decide) ?_
      exact b_15  _ _ _ (1 : Int32) hq hP hS (lv_sub hl [] rfl)
