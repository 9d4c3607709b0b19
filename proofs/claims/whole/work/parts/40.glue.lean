/-! each call of the law, class and reference alike, on the pure level (written by wip/whole/gen/gen_law.py) -/
theorem updL0 {f : Nat → Int64} {v : Int64} : vp_updL f 0 v 0 = v := if_pos rfl
/-- what ties the class's state to the reference's -/
def LI (n : kSt) (sg : kF) (len hsz hnx : Int32) (hs : Nat → kSt) (lk : kF) (gs : Nat → kSt) (msize macts : Int32) (mtext mnow mdiary mkept misk : kF) : Prop := KREL n mnow ∧ XRel len sg msize mtext ∧ HRel hsz hnx macts hs mdiary ∧ GRel lk misk mkept gs
theorem lo_append {zlen : Int32} {zsg : kF} {out : Nat → Int64} {x1 : Int32} {ox : Int32 × Int32 × Int32 × kF} (h : fn_X7_append zlen zsg x1 = some ox) : fn_L_append zlen zsg out x1 = if ox.1 = 0 then some ((0 : Int32), ox.2.2.1, ox.2.2.2, (vp_updL out 0 ((ox.2.1).toInt64))) else if ox.1 = 1 then some ((1 : Int32), ox.2.2.1, ox.2.2.2, out) else if ox.1 = 2 then some ((2 : Int32), ox.2.2.1, ox.2.2.2, out) else none := by
  unfold fn_L_append
  rw [h, kbs]
theorem gl_append {n t : kSt} {hs gs : Nat → kSt} {len hsz hnx mref msize macts mspot mout : Int32} {sg lk mtext mnow mtrial mdiary mkept misk mside mwas : kF} {out : Nat → Int64} {x1 : Int32} (h : LI n sg len hsz hnx hs lk gs msize macts mtext mnow mdiary mkept misk) : ∃ (o : Int32 × Int32 × kF × (Nat → Int64)) (o' : Int32 × Int32 × Int32 × kF), fn_L_append len sg out x1 = some o ∧ fn_X8_append mref msize mtext x1 = some o' ∧ o'.2.1 = o.1 ∧ (o.1 = 0 → (o.2.2.2 0) = (o'.1).toInt64) ∧ LI n o.2.2.1 o.2.1 hsz hnx hs lk gs o'.2.2.1 macts o'.2.2.2 mnow mdiary mkept misk := by
  obtain ⟨hN, hX, hH, hG⟩ := h
  obtain ⟨_, _, _, _, _, hd⟩ := sim_append (ref := mref) (x1 := x1) hX
  rcases hd with ⟨h1, h2⟩ | ⟨h1, h2⟩ | ⟨h1, h2, hX'⟩
  · have e := lo_append (out := out) h1
    have e := e.trans (if_neg (show ¬ ((1 : Int32) = 0) by decide))
    have e := e.trans (if_pos (show (1 : Int32) = 1 from rfl))
    exact ⟨_, _, e, h2, rfl, (fun c => absurd (show (1 : Int32) = 0 from c) (by decide)), hN, hX, hH, hG⟩
  · have e := lo_append (out := out) h1
    have e := e.trans (if_neg (show ¬ ((2 : Int32) = 0) by decide))
    have e := e.trans (if_neg (show ¬ ((2 : Int32) = 1) by decide))
    have e := e.trans (if_pos (show (2 : Int32) = 2 from rfl))
    exact ⟨_, _, e, h2, rfl, (fun c => absurd (show (2 : Int32) = 0 from c) (by decide)), hN, hX, hH, hG⟩
  · have e := lo_append (out := out) h1
    have e := e.trans (if_pos (show (0 : Int32) = 0 from rfl))
    exact ⟨_, _, e, h2, rfl, (fun _ => updL0 (f := out)), hN, hX', hH, hG⟩
theorem gl_clearText {n t : kSt} {hs gs : Nat → kSt} {len hsz hnx mref msize macts mspot mout : Int32} {sg lk mtext mnow mtrial mdiary mkept misk mside mwas : kF} {out : Nat → Int64} (h : LI n sg len hsz hnx hs lk gs msize macts mtext mnow mdiary mkept misk) : ∃ (o : Int32 × Int32) (o' : Int32 × Int32 × Int32), fn_X7_clearText len = some o ∧ fn_X8_clearText mref msize = some o' ∧ o.1 = o'.1 ∧ LI n sg o.2 hsz hnx hs lk gs o'.2.2 macts mtext mnow mdiary mkept misk := by
  obtain ⟨hN, hX, hH, hG⟩ := h
  exact ⟨_, _, rfl, rfl, hX.len, hN, XRel.clear (len := len) (msize := msize), hH, hG⟩
theorem gl_errorPosition {n t : kSt} {hs gs : Nat → kSt} {len hsz hnx mref msize macts mspot mout : Int32} {sg lk mtext mnow mtrial mdiary mkept misk mside mwas : kF} {out : Nat → Int64}  (h : LI n sg len hsz hnx hs lk gs msize macts mtext mnow mdiary mkept misk) : ∃ (o : Int32) (o' : Int32 × Int32 × Int32 × Int32 × kF × kF × kF), fn_X7_errorPosition len sg = some o ∧ fn_X8_errorPosition mref msize mspot mout mtext mtrial mside mwas = some o' ∧ o = o'.1 ∧ LI n sg len hsz hnx hs lk gs msize macts mtext mnow mdiary mkept misk := by
  obtain ⟨hN, hX, hH, hG⟩ := h
  obtain ⟨_, _, _, _, _, _, hd⟩ := sim_error (ref := mref) (spot := mspot) (out := mout) (trial := mtrial) (side := mside) (was := mwas) hX
  obtain ⟨h1, h2⟩ := hd
  exact ⟨_, _, h1, h2, rfl, hN, hX, hH, hG⟩
theorem lo_load {zlen : Int32} {zsg : kF} {znsto : Int32} {zndro : Int32} {znfou : Int32} {zntold : Int32} {znwl : Int32} {znwr : Int32} {znle : kF} {znsh : kF} {znrolls : Int32} {znfrm : Int32} {zntk : kF} {znsr : kF} {znse : kF} {zhsz : Int32} {zlk : kF} {out : Nat → Int64} {ox : Int32 × Int32 × Int32 × Int32 × Int32 × Int32 × Int32 × Int32 × kF × kF × Int32 × Int32 × kF × kF × kF × Int32 × kF} (h : fn_X7_load zlen zsg znsto zndro znfou zntold znwl znwr znle znsh znrolls znfrm zntk znsr znse zhsz zlk = some ox) : fn_L_load zlen zsg znsto zndro znfou zntold znwl znwr znle znsh znrolls znfrm zntk znsr znse zhsz zlk out = if ox.1 = 0 then some ((0 : Int32), ox.2.2.1, ox.2.2.2.1, ox.2.2.2.2.1, ox.2.2.2.2.2.1, ox.2.2.2.2.2.2.1, ox.2.2.2.2.2.2.2.1, ox.2.2.2.2.2.2.2.2.1, ox.2.2.2.2.2.2.2.2.2.1, ox.2.2.2.2.2.2.2.2.2.2.1, ox.2.2.2.2.2.2.2.2.2.2.2.1, ox.2.2.2.2.2.2.2.2.2.2.2.2.1, ox.2.2.2.2.2.2.2.2.2.2.2.2.2.1, ox.2.2.2.2.2.2.2.2.2.2.2.2.2.2.1, ox.2.2.2.2.2.2.2.2.2.2.2.2.2.2.2.1, ox.2.2.2.2.2.2.2.2.2.2.2.2.2.2.2.2, (vp_updL out 0 ((ox.2.1).toInt64))) else if ox.1 = 2 then some ((1 : Int32), ox.2.2.1, ox.2.2.2.1, ox.2.2.2.2.1, ox.2.2.2.2.2.1, ox.2.2.2.2.2.2.1, ox.2.2.2.2.2.2.2.1, ox.2.2.2.2.2.2.2.2.1, ox.2.2.2.2.2.2.2.2.2.1, ox.2.2.2.2.2.2.2.2.2.2.1, ox.2.2.2.2.2.2.2.2.2.2.2.1, ox.2.2.2.2.2.2.2.2.2.2.2.2.1, ox.2.2.2.2.2.2.2.2.2.2.2.2.2.1, ox.2.2.2.2.2.2.2.2.2.2.2.2.2.2.1, ox.2.2.2.2.2.2.2.2.2.2.2.2.2.2.2.1, ox.2.2.2.2.2.2.2.2.2.2.2.2.2.2.2.2, out) else none := by
  unfold fn_L_load
  rw [h, kbs]
theorem gl_load {n t : kSt} {hs gs : Nat → kSt} {len hsz hnx mref msize macts mspot mout : Int32} {sg lk mtext mnow mtrial mdiary mkept misk mside mwas : kF} {out : Nat → Int64}  (h : LI n sg len hsz hnx hs lk gs msize macts mtext mnow mdiary mkept misk) : ∃ (o : Int32 × Int32 × Int32 × Int32 × Int32 × Int32 × Int32 × kF × kF × Int32 × Int32 × kF × kF × kF × Int32 × kF × (Nat → Int64)) (o' : Int32 × Int32 × Int32 × Int32 × Int32 × kF × kF × kF × kF × kF), fn_L_load len sg n.1 n.2.1 n.2.2.1 n.2.2.2.1 n.2.2.2.2.1 n.2.2.2.2.2.1 n.2.2.2.2.2.2.1 n.2.2.2.2.2.2.2.1 n.2.2.2.2.2.2.2.2.1 n.2.2.2.2.2.2.2.2.2.1 n.2.2.2.2.2.2.2.2.2.2.1 n.2.2.2.2.2.2.2.2.2.2.2.1 n.2.2.2.2.2.2.2.2.2.2.2.2 hsz lk out = some o ∧ fn_X8_load mref msize macts mspot mout mtext mnow mtrial misk mside mwas = some o' ∧ o'.2.1 = o.1 ∧ (o.1 = 0 → (o.2.2.2.2.2.2.2.2.2.2.2.2.2.2.2.2 0) = (o'.1).toInt64) ∧ LI (o.2.1, o.2.2.1, o.2.2.2.1, o.2.2.2.2.1, o.2.2.2.2.2.1, o.2.2.2.2.2.2.1, o.2.2.2.2.2.2.2.1, o.2.2.2.2.2.2.2.2.1, o.2.2.2.2.2.2.2.2.2.1, o.2.2.2.2.2.2.2.2.2.2.1, o.2.2.2.2.2.2.2.2.2.2.2.1, o.2.2.2.2.2.2.2.2.2.2.2.2.1, o.2.2.2.2.2.2.2.2.2.2.2.2.2.1) sg len o.2.2.2.2.2.2.2.2.2.2.2.2.2.2.1 hnx hs o.2.2.2.2.2.2.2.2.2.2.2.2.2.2.2.1 gs msize o'.2.2.1 mtext o'.2.2.2.2.2.1 mdiary mkept o'.2.2.2.2.2.2.2.1 := by
  obtain ⟨hN, hX, hH, hG⟩ := h
  obtain ⟨_, _, _, _, _, _, _, _, _, _, _, _, _, _, _, _, _, _, _, _, hd⟩ := sim_load (ref := mref) (spot := mspot) (out := mout) (macts := macts) (wl := n.2.2.2.2.1) (wr := n.2.2.2.2.2.1) (hsz := hsz) (isk := misk) (lk := lk) (trial := mtrial) (side := mside) (was := mwas) hX hN
  rcases hd with ⟨h1, h2⟩ | ⟨h1, h2, hN'⟩
  · have e := lo_load (out := out) h1
    have e := e.trans (if_neg (show ¬ ((2 : Int32) = 0) by decide))
    have e := e.trans (if_pos (show (2 : Int32) = 2 from rfl))
    exact ⟨_, _, e, h2, rfl, (fun c => absurd (show (1 : Int32) = 0 from c) (by decide)), hN, hX, hH, hG⟩
  · have e := lo_load (out := out) h1
    have e := e.trans (if_pos (show (0 : Int32) = 0 from rfl))
    exact ⟨_, _, e, h2, rfl, (fun _ => updL0 (f := out)), hN', hX, hH.forget, GRel.upd2⟩
theorem lo_about {znsto : Int32} {zndro : Int32} {znfou : Int32} {zntold : Int32} {znle : kF} {znrolls : Int32} {znfrm : Int32} {zntk : kF} {znsr : kF} {out : Nat → Int64} {x1 : Int32} {ox : Int32 × Int32} (h : fn_X7_about znsto zndro znfou zntold znle znrolls znfrm zntk znsr x1 = some ox) : fn_L_about znsto zndro znfou zntold znle znrolls znfrm zntk znsr out x1 = if ox.1 = 0 then some ((0 : Int32), (vp_updL out 0 ((ox.2).toInt64))) else if ox.1 = 1 then some ((1 : Int32), out) else none := by
  unfold fn_L_about
  rw [h, kbs]
theorem gl_about {n t : kSt} {hs gs : Nat → kSt} {len hsz hnx mref msize macts mspot mout : Int32} {sg lk mtext mnow mtrial mdiary mkept misk mside mwas : kF} {out : Nat → Int64} {x1 : Int32} (h : LI n sg len hsz hnx hs lk gs msize macts mtext mnow mdiary mkept misk) : ∃ (o : Int32 × (Nat → Int64)) (o' : Int32 × Int32), fn_L_about n.1 n.2.1 n.2.2.1 n.2.2.2.1 n.2.2.2.2.2.2.1 n.2.2.2.2.2.2.2.2.1 n.2.2.2.2.2.2.2.2.2.1 n.2.2.2.2.2.2.2.2.2.2.1 n.2.2.2.2.2.2.2.2.2.2.2.1 out x1 = some o ∧ fn_X8_about mref mnow x1 = some o' ∧ o'.2 = o.1 ∧ (o.1 = 0 → (o.2 0) = (o'.1).toInt64) ∧ LI n sg len hsz hnx hs lk gs msize macts mtext mnow mdiary mkept misk := by
  obtain ⟨hN, hX, hH, hG⟩ := h
  obtain ⟨_, hd⟩ := sim_about (ref := mref) (x1 := x1) hN
  rcases hd with ⟨h1, h2⟩ | ⟨h1, h2⟩
  · have e := lo_about (out := out) h1
    have e := e.trans (if_pos (show (0 : Int32) = 0 from rfl))
    exact ⟨_, _, e, h2, rfl, (fun _ => updL0 (f := out)), hN, hX, hH, hG⟩
  · have e := lo_about (out := out) h1
    have e := e.trans (if_neg (show ¬ ((1 : Int32) = 0) by decide))
    have e := e.trans (if_pos (show (1 : Int32) = 1 from rfl))
    exact ⟨_, _, e, h2, rfl, (fun c => absurd (show (1 : Int32) = 0 from c) (by decide)), hN, hX, hH, hG⟩
theorem lo_pin {zntold : Int32} {znle : kF} {znsh : kF} {out : Nat → Int64} {x1 : Int32} {x2 : Int32} {ox : Int32 × Int32} (h : fn_X7_pin zntold znle znsh x1 x2 = some ox) : fn_L_pin zntold znle znsh out x1 x2 = if ox.1 = 0 then some ((0 : Int32), (vp_updL out 0 ((ox.2).toInt64))) else if ox.1 = 3 then some ((1 : Int32), out) else if ox.1 = 1 then some ((2 : Int32), out) else none := by
  unfold fn_L_pin
  rw [h, kbs]
theorem gl_pin {n t : kSt} {hs gs : Nat → kSt} {len hsz hnx mref msize macts mspot mout : Int32} {sg lk mtext mnow mtrial mdiary mkept misk mside mwas : kF} {out : Nat → Int64} {x1 : Int32} {x2 : Int32} (h : LI n sg len hsz hnx hs lk gs msize macts mtext mnow mdiary mkept misk) : ∃ (o : Int32 × (Nat → Int64)) (o' : Int32 × Int32), fn_L_pin n.2.2.2.1 n.2.2.2.2.2.2.1 n.2.2.2.2.2.2.2.1 out x1 x2 = some o ∧ fn_X8_pin mref mnow x1 x2 = some o' ∧ o'.2 = o.1 ∧ (o.1 = 0 → (o.2 0) = (o'.1).toInt64) ∧ LI n sg len hsz hnx hs lk gs msize macts mtext mnow mdiary mkept misk := by
  obtain ⟨hN, hX, hH, hG⟩ := h
  obtain ⟨_, hd⟩ := sim_pin (ref := mref) (x1 := x1) (x2 := x2) hN
  rcases hd with ⟨h1, h2⟩ | ⟨h1, h2⟩ | ⟨h1, h2⟩
  · have e := lo_pin (out := out) h1
    have e := e.trans (if_pos (show (0 : Int32) = 0 from rfl))
    exact ⟨_, _, e, h2, rfl, (fun _ => updL0 (f := out)), hN, hX, hH, hG⟩
  · have e := lo_pin (out := out) h1
    have e := e.trans (if_neg (show ¬ ((3 : Int32) = 0) by decide))
    have e := e.trans (if_pos (show (3 : Int32) = 3 from rfl))
    exact ⟨_, _, e, h2, rfl, (fun c => absurd (show (1 : Int32) = 0 from c) (by decide)), hN, hX, hH, hG⟩
  · have e := lo_pin (out := out) h1
    have e := e.trans (if_neg (show ¬ ((1 : Int32) = 0) by decide))
    have e := e.trans (if_neg (show ¬ ((1 : Int32) = 3) by decide))
    have e := e.trans (if_pos (show (1 : Int32) = 1 from rfl))
    exact ⟨_, _, e, h2, rfl, (fun c => absurd (show (2 : Int32) = 0 from c) (by decide)), hN, hX, hH, hG⟩
theorem lo_frame {znrolls : Int32} {znfrm : Int32} {zntk : kF} {znsr : kF} {out : Nat → Int64} {x1 : Int32} {x2 : Int32} {ox : Int32 × Int32} (h : fn_X7_frame znrolls znfrm zntk znsr x1 x2 = some ox) : fn_L_frame znrolls znfrm zntk znsr out x1 x2 = if ox.1 = 0 then some ((0 : Int32), (vp_updL out 0 ((ox.2).toInt64))) else if ox.1 = 3 then some ((1 : Int32), out) else if ox.1 = 1 then some ((2 : Int32), out) else none := by
  unfold fn_L_frame
  rw [h, kbs]
theorem gl_frame {n t : kSt} {hs gs : Nat → kSt} {len hsz hnx mref msize macts mspot mout : Int32} {sg lk mtext mnow mtrial mdiary mkept misk mside mwas : kF} {out : Nat → Int64} {x1 : Int32} {x2 : Int32} (h : LI n sg len hsz hnx hs lk gs msize macts mtext mnow mdiary mkept misk) : ∃ (o : Int32 × (Nat → Int64)) (o' : Int32 × Int32), fn_L_frame n.2.2.2.2.2.2.2.2.1 n.2.2.2.2.2.2.2.2.2.1 n.2.2.2.2.2.2.2.2.2.2.1 n.2.2.2.2.2.2.2.2.2.2.2.1 out x1 x2 = some o ∧ fn_X8_frame mref mnow x1 x2 = some o' ∧ o'.2 = o.1 ∧ (o.1 = 0 → (o.2 0) = (o'.1).toInt64) ∧ LI n sg len hsz hnx hs lk gs msize macts mtext mnow mdiary mkept misk := by
  obtain ⟨hN, hX, hH, hG⟩ := h
  obtain ⟨_, hd⟩ := sim_frame (ref := mref) (x1 := x1) (x2 := x2) hN
  rcases hd with ⟨h1, h2⟩ | ⟨h1, h2⟩ | ⟨h1, h2⟩
  · have e := lo_frame (out := out) h1
    have e := e.trans (if_pos (show (0 : Int32) = 0 from rfl))
    exact ⟨_, _, e, h2, rfl, (fun _ => updL0 (f := out)), hN, hX, hH, hG⟩
  · have e := lo_frame (out := out) h1
    have e := e.trans (if_neg (show ¬ ((3 : Int32) = 0) by decide))
    have e := e.trans (if_pos (show (3 : Int32) = 3 from rfl))
    exact ⟨_, _, e, h2, rfl, (fun c => absurd (show (1 : Int32) = 0 from c) (by decide)), hN, hX, hH, hG⟩
  · have e := lo_frame (out := out) h1
    have e := e.trans (if_neg (show ¬ ((1 : Int32) = 0) by decide))
    have e := e.trans (if_neg (show ¬ ((1 : Int32) = 3) by decide))
    have e := e.trans (if_pos (show (1 : Int32) = 1 from rfl))
    exact ⟨_, _, e, h2, rfl, (fun c => absurd (show (2 : Int32) = 0 from c) (by decide)), hN, hX, hH, hG⟩
theorem lo_taken {znrolls : Int32} {zntk : kF} {out : Nat → Int64} {x1 : Int32} {ox : Int32 × Int32} (h : fn_X7_taken znrolls zntk x1 = some ox) : fn_L_taken znrolls zntk out x1 = if ox.1 = 0 then some ((0 : Int32), (vp_updL out 0 ((ox.2).toInt64))) else if ox.1 = 3 then some ((1 : Int32), out) else none := by
  unfold fn_L_taken
  rw [h, kbs]
theorem gl_taken {n t : kSt} {hs gs : Nat → kSt} {len hsz hnx mref msize macts mspot mout : Int32} {sg lk mtext mnow mtrial mdiary mkept misk mside mwas : kF} {out : Nat → Int64} {x1 : Int32} (h : LI n sg len hsz hnx hs lk gs msize macts mtext mnow mdiary mkept misk) : ∃ (o : Int32 × (Nat → Int64)) (o' : Int32 × Int32), fn_L_taken n.2.2.2.2.2.2.2.2.1 n.2.2.2.2.2.2.2.2.2.2.1 out x1 = some o ∧ fn_X8_taken mref mnow x1 = some o' ∧ o'.2 = o.1 ∧ (o.1 = 0 → (o.2 0) = (o'.1).toInt64) ∧ LI n sg len hsz hnx hs lk gs msize macts mtext mnow mdiary mkept misk := by
  obtain ⟨hN, hX, hH, hG⟩ := h
  obtain ⟨_, hd⟩ := sim_taken (ref := mref) (x1 := x1) hN
  rcases hd with ⟨h1, h2⟩ | ⟨h1, h2⟩
  · have e := lo_taken (out := out) h1
    have e := e.trans (if_pos (show (0 : Int32) = 0 from rfl))
    exact ⟨_, _, e, h2, rfl, (fun _ => updL0 (f := out)), hN, hX, hH, hG⟩
  · have e := lo_taken (out := out) h1
    have e := e.trans (if_neg (show ¬ ((3 : Int32) = 0) by decide))
    have e := e.trans (if_pos (show (3 : Int32) = 3 from rfl))
    exact ⟨_, _, e, h2, rfl, (fun c => absurd (show (1 : Int32) = 0 from c) (by decide)), hN, hX, hH, hG⟩
theorem lo_setting {znse : kF} {out : Nat → Int64} {x1 : Int32} {ox : Int32 × Int32} (h : fn_X7_setting znse x1 = some ox) : fn_L_setting znse out x1 = if ox.1 = 0 then some ((0 : Int32), (vp_updL out 0 ((ox.2).toInt64))) else if ox.1 = 1 then some ((1 : Int32), out) else none := by
  unfold fn_L_setting
  rw [h, kbs]
theorem gl_setting {n t : kSt} {hs gs : Nat → kSt} {len hsz hnx mref msize macts mspot mout : Int32} {sg lk mtext mnow mtrial mdiary mkept misk mside mwas : kF} {out : Nat → Int64} {x1 : Int32} (h : LI n sg len hsz hnx hs lk gs msize macts mtext mnow mdiary mkept misk) : ∃ (o : Int32 × (Nat → Int64)) (o' : Int32 × Int32), fn_L_setting n.2.2.2.2.2.2.2.2.2.2.2.2 out x1 = some o ∧ fn_X8_setting mref mnow x1 = some o' ∧ o'.2 = o.1 ∧ (o.1 = 0 → (o.2 0) = (o'.1).toInt64) ∧ LI n sg len hsz hnx hs lk gs msize macts mtext mnow mdiary mkept misk := by
  obtain ⟨hN, hX, hH, hG⟩ := h
  obtain ⟨_, hd⟩ := sim_setting (ref := mref) (x1 := x1) hN
  rcases hd with ⟨h1, h2⟩ | ⟨h1, h2⟩
  · have e := lo_setting (out := out) h1
    have e := e.trans (if_pos (show (0 : Int32) = 0 from rfl))
    exact ⟨_, _, e, h2, rfl, (fun _ => updL0 (f := out)), hN, hX, hH, hG⟩
  · have e := lo_setting (out := out) h1
    have e := e.trans (if_neg (show ¬ ((1 : Int32) = 0) by decide))
    have e := e.trans (if_pos (show (1 : Int32) = 1 from rfl))
    exact ⟨_, _, e, h2, rfl, (fun c => absurd (show (1 : Int32) = 0 from c) (by decide)), hN, hX, hH, hG⟩
theorem gl_begin {n t : kSt} {hs gs : Nat → kSt} {len hsz hnx mref msize macts mspot mout : Int32} {sg lk mtext mnow mtrial mdiary mkept misk mside mwas : kF} {out : Nat → Int64}  (h : LI n sg len hsz hnx hs lk gs msize macts mtext mnow mdiary mkept misk) : ∃ (o : Int32 × Int32 × kF × kF × Int32 × Int32 × Int32 × Int32 × (Nat → kSt)) (o' : Int32 × Int32 × Int32 × kF × kF), fn_X7_begin n.1 n.2.1 n.2.2.1 n.2.2.2.1 n.2.2.2.2.2.2.1 n.2.2.2.2.2.2.2.1 n.2.2.2.2.2.2.2.2.1 n.2.2.2.2.2.2.2.2.2.1 n.2.2.2.2.2.2.2.2.2.2.1 n.2.2.2.2.2.2.2.2.2.2.2.1 n.2.2.2.2.2.2.2.2.2.2.2.2 hsz hnx hs = some o ∧ fn_X8_begin mref macts mnow mdiary = some o' ∧ o.1 = o'.1 ∧ LI (n.1, n.2.1, n.2.2.1, o.2.1, n.2.2.2.2.1, n.2.2.2.2.2.1, o.2.2.1, o.2.2.2.1, o.2.2.2.2.1, o.2.2.2.2.2.1, n.2.2.2.2.2.2.2.2.2.2.1, n.2.2.2.2.2.2.2.2.2.2.2.1, n.2.2.2.2.2.2.2.2.2.2.2.2) sg len o.2.2.2.2.2.2.1 o.2.2.2.2.2.2.2.1 o.2.2.2.2.2.2.2.2 lk gs msize o'.2.2.1 mtext o'.2.2.2.1 o'.2.2.2.2 mkept misk := by
  obtain ⟨hN, hX, hH, hG⟩ := h
  obtain ⟨_, _, _, _, _, _, _, _, _, _, _, _, hd⟩ := sim_beginA (ref := mref) hH hN
  obtain ⟨h1, h2, hH', hN'⟩ := hd
  exact ⟨_, _, h1, h2, rfl, hN', hX, hH', hG⟩
theorem lo_roll {znsto : Int32} {zndro : Int32} {znfou : Int32} {zntold : Int32} {znwl : Int32} {znwr : Int32} {znle : kF} {znsh : kF} {znrolls : Int32} {znfrm : Int32} {zntk : kF} {znsr : kF} {znse : kF} {zhsz : Int32} {zhnx : Int32} {out : Nat → Int64} {hs : Nat → kSt} {x1 : Int32} {x2 : Int32} {x3 : Int32} {x4 : Int32} {ox : Int32 × Int32 × Int32 × Int32 × Int32 × Int32 × Int32 × Int32 × kF × kF × Int32 × Int32 × kF × kF × Int32 × Int32 × (Nat → kSt)} (h : fn_X7_roll znsto zndro znfou zntold znwl znwr znle znsh znrolls znfrm zntk znsr znse zhsz zhnx hs x1 x2 x3 x4 = some ox) : fn_L_roll znsto zndro znfou zntold znwl znwr znle znsh znrolls znfrm zntk znsr znse zhsz zhnx out hs x1 x2 x3 x4 = if ox.1 = 0 then some ((0 : Int32), ox.2.2.1, ox.2.2.2.1, ox.2.2.2.2.1, ox.2.2.2.2.2.1, ox.2.2.2.2.2.2.1, ox.2.2.2.2.2.2.2.1, ox.2.2.2.2.2.2.2.2.1, ox.2.2.2.2.2.2.2.2.2.1, ox.2.2.2.2.2.2.2.2.2.2.1, ox.2.2.2.2.2.2.2.2.2.2.2.1, ox.2.2.2.2.2.2.2.2.2.2.2.2.1, ox.2.2.2.2.2.2.2.2.2.2.2.2.2.1, ox.2.2.2.2.2.2.2.2.2.2.2.2.2.2.1, ox.2.2.2.2.2.2.2.2.2.2.2.2.2.2.2.1, (vp_updL out 0 ((ox.2.1).toInt64)), ox.2.2.2.2.2.2.2.2.2.2.2.2.2.2.2.2) else if ox.1 = 1 then some ((1 : Int32), ox.2.2.1, ox.2.2.2.1, ox.2.2.2.2.1, ox.2.2.2.2.2.1, ox.2.2.2.2.2.2.1, ox.2.2.2.2.2.2.2.1, ox.2.2.2.2.2.2.2.2.1, ox.2.2.2.2.2.2.2.2.2.1, ox.2.2.2.2.2.2.2.2.2.2.1, ox.2.2.2.2.2.2.2.2.2.2.2.1, ox.2.2.2.2.2.2.2.2.2.2.2.2.1, ox.2.2.2.2.2.2.2.2.2.2.2.2.2.1, ox.2.2.2.2.2.2.2.2.2.2.2.2.2.2.1, ox.2.2.2.2.2.2.2.2.2.2.2.2.2.2.2.1, out, ox.2.2.2.2.2.2.2.2.2.2.2.2.2.2.2.2) else if ox.1 = 2 then some ((2 : Int32), ox.2.2.1, ox.2.2.2.1, ox.2.2.2.2.1, ox.2.2.2.2.2.1, ox.2.2.2.2.2.2.1, ox.2.2.2.2.2.2.2.1, ox.2.2.2.2.2.2.2.2.1, ox.2.2.2.2.2.2.2.2.2.1, ox.2.2.2.2.2.2.2.2.2.2.1, ox.2.2.2.2.2.2.2.2.2.2.2.1, ox.2.2.2.2.2.2.2.2.2.2.2.2.1, ox.2.2.2.2.2.2.2.2.2.2.2.2.2.1, ox.2.2.2.2.2.2.2.2.2.2.2.2.2.2.1, ox.2.2.2.2.2.2.2.2.2.2.2.2.2.2.2.1, out, ox.2.2.2.2.2.2.2.2.2.2.2.2.2.2.2.2) else none := by
  unfold fn_L_roll
  rw [h, kbs]
theorem gl_roll {n t : kSt} {hs gs : Nat → kSt} {len hsz hnx mref msize macts mspot mout : Int32} {sg lk mtext mnow mtrial mdiary mkept misk mside mwas : kF} {out : Nat → Int64} {x1 : Int32} {x2 : Int32} {x3 : Int32} {x4 : Int32} (h : LI n sg len hsz hnx hs lk gs msize macts mtext mnow mdiary mkept misk) : ∃ (o : Int32 × Int32 × Int32 × Int32 × Int32 × Int32 × Int32 × kF × kF × Int32 × Int32 × kF × kF × Int32 × Int32 × (Nat → Int64) × (Nat → kSt)) (o' : Int32 × Int32 × Int32 × kF × kF × kF × kF), fn_L_roll n.1 n.2.1 n.2.2.1 n.2.2.2.1 n.2.2.2.2.1 n.2.2.2.2.2.1 n.2.2.2.2.2.2.1 n.2.2.2.2.2.2.2.1 n.2.2.2.2.2.2.2.2.1 n.2.2.2.2.2.2.2.2.2.1 n.2.2.2.2.2.2.2.2.2.2.1 n.2.2.2.2.2.2.2.2.2.2.2.1 n.2.2.2.2.2.2.2.2.2.2.2.2 hsz hnx out hs x1 x2 x3 x4 = some o ∧ fn_X8_roll mref macts mnow mdiary mside mwas x1 x2 x3 x4 = some o' ∧ o'.2.1 = o.1 ∧ (o.1 = 0 → (o.2.2.2.2.2.2.2.2.2.2.2.2.2.2.2.1 0) = (o'.1).toInt64) ∧ LI (o.2.1, o.2.2.1, o.2.2.2.1, o.2.2.2.2.1, o.2.2.2.2.2.1, o.2.2.2.2.2.2.1, o.2.2.2.2.2.2.2.1, o.2.2.2.2.2.2.2.2.1, o.2.2.2.2.2.2.2.2.2.1, o.2.2.2.2.2.2.2.2.2.2.1, o.2.2.2.2.2.2.2.2.2.2.2.1, o.2.2.2.2.2.2.2.2.2.2.2.2.1, n.2.2.2.2.2.2.2.2.2.2.2.2) sg len o.2.2.2.2.2.2.2.2.2.2.2.2.2.1 o.2.2.2.2.2.2.2.2.2.2.2.2.2.2.1 o.2.2.2.2.2.2.2.2.2.2.2.2.2.2.2.2 lk gs msize o'.2.2.1 mtext o'.2.2.2.1 o'.2.2.2.2.1 mkept misk := by
  obtain ⟨hN, hX, hH, hG⟩ := h
  obtain ⟨_, _, _, _, _, _, _, _, _, _, _, _, _, _, _, _, _, _, _, _, _, hd⟩ := sim_rollA (ref := mref) (wl := n.2.2.2.2.1) (wr := n.2.2.2.2.2.1) (side := mside) (was := mwas) (x1 := x1) (x2 := x2) (x3 := x3) (x4 := x4) hH hN
  rcases hd with ⟨h1, h2⟩ | ⟨h1, h2⟩ | ⟨h1, h2, hH', hN'⟩
  · have e := lo_roll (out := out) h1
    have e := e.trans (if_neg (show ¬ ((1 : Int32) = 0) by decide))
    have e := e.trans (if_pos (show (1 : Int32) = 1 from rfl))
    exact ⟨_, _, e, h2, rfl, (fun c => absurd (show (1 : Int32) = 0 from c) (by decide)), hN, hX, hH, hG⟩
  · have e := lo_roll (out := out) h1
    have e := e.trans (if_neg (show ¬ ((2 : Int32) = 0) by decide))
    have e := e.trans (if_neg (show ¬ ((2 : Int32) = 1) by decide))
    have e := e.trans (if_pos (show (2 : Int32) = 2 from rfl))
    exact ⟨_, _, e, h2, rfl, (fun c => absurd (show (2 : Int32) = 0 from c) (by decide)), hN, hX, hH, hG⟩
  · have e := lo_roll (out := out) h1
    have e := e.trans (if_pos (show (0 : Int32) = 0 from rfl))
    exact ⟨_, _, e, h2, rfl, (fun _ => updL0 (f := out)), hN', hX, hH', hG⟩
theorem lo_touch {znsto : Int32} {zndro : Int32} {znfou : Int32} {zntold : Int32} {znle : kF} {znsh : kF} {znrolls : Int32} {znfrm : Int32} {zntk : kF} {znsr : kF} {znse : kF} {zhsz : Int32} {zhnx : Int32} {out : Nat → Int64} {hs : Nat → kSt} {x1 : Int32} {x2 : Int32} {ox : Int32 × Int32 × kF × Int32 × Int32 × (Nat → kSt)} (h : fn_X7_touch znsto zndro znfou zntold znle znsh znrolls znfrm zntk znsr znse zhsz zhnx hs x1 x2 = some ox) : fn_L_touch znsto zndro znfou zntold znle znsh znrolls znfrm zntk znsr znse zhsz zhnx out hs x1 x2 = if ox.1 = 0 then some ((0 : Int32), ox.2.2.1, ox.2.2.2.1, ox.2.2.2.2.1, (vp_updL out 0 ((ox.2.1).toInt64)), ox.2.2.2.2.2) else if ox.1 = 3 then some ((1 : Int32), ox.2.2.1, ox.2.2.2.1, ox.2.2.2.2.1, out, ox.2.2.2.2.2) else if ox.1 = 1 then some ((2 : Int32), ox.2.2.1, ox.2.2.2.1, ox.2.2.2.2.1, out, ox.2.2.2.2.2) else if ox.1 = 2 then some ((3 : Int32), ox.2.2.1, ox.2.2.2.1, ox.2.2.2.2.1, out, ox.2.2.2.2.2) else none := by
  unfold fn_L_touch
  rw [h, kbs]
theorem gl_touch {n t : kSt} {hs gs : Nat → kSt} {len hsz hnx mref msize macts mspot mout : Int32} {sg lk mtext mnow mtrial mdiary mkept misk mside mwas : kF} {out : Nat → Int64} {x1 : Int32} {x2 : Int32} (h : LI n sg len hsz hnx hs lk gs msize macts mtext mnow mdiary mkept misk) : ∃ (o : Int32 × kF × Int32 × Int32 × (Nat → Int64) × (Nat → kSt)) (o' : Int32 × Int32 × Int32 × kF × kF), fn_L_touch n.1 n.2.1 n.2.2.1 n.2.2.2.1 n.2.2.2.2.2.2.1 n.2.2.2.2.2.2.2.1 n.2.2.2.2.2.2.2.2.1 n.2.2.2.2.2.2.2.2.2.1 n.2.2.2.2.2.2.2.2.2.2.1 n.2.2.2.2.2.2.2.2.2.2.2.1 n.2.2.2.2.2.2.2.2.2.2.2.2 hsz hnx out hs x1 x2 = some o ∧ fn_X8_touch mref macts mnow mdiary x1 x2 = some o' ∧ o'.2.1 = o.1 ∧ (o.1 = 0 → (o.2.2.2.2.1 0) = (o'.1).toInt64) ∧ LI (n.1, n.2.1, n.2.2.1, n.2.2.2.1, n.2.2.2.2.1, n.2.2.2.2.2.1, o.2.1, n.2.2.2.2.2.2.2.1, n.2.2.2.2.2.2.2.2.1, n.2.2.2.2.2.2.2.2.2.1, n.2.2.2.2.2.2.2.2.2.2.1, n.2.2.2.2.2.2.2.2.2.2.2.1, n.2.2.2.2.2.2.2.2.2.2.2.2) sg len o.2.2.1 o.2.2.2.1 o.2.2.2.2.2 lk gs msize o'.2.2.1 mtext o'.2.2.2.1 o'.2.2.2.2 mkept misk := by
  obtain ⟨hN, hX, hH, hG⟩ := h
  obtain ⟨_, _, _, _, _, _, _, _, hd⟩ := sim_touchA (ref := mref) (x1 := x1) (x2 := x2) hH hN
  rcases hd with ⟨h1, h2⟩ | ⟨h1, h2⟩ | ⟨h1, h2⟩ | ⟨h1, h2, hH', hN'⟩
  · have e := lo_touch (out := out) h1
    have e := e.trans (if_neg (show ¬ ((3 : Int32) = 0) by decide))
    have e := e.trans (if_pos (show (3 : Int32) = 3 from rfl))
    exact ⟨_, _, e, h2, rfl, (fun c => absurd (show (1 : Int32) = 0 from c) (by decide)), hN, hX, hH, hG⟩
  · have e := lo_touch (out := out) h1
    have e := e.trans (if_neg (show ¬ ((1 : Int32) = 0) by decide))
    have e := e.trans (if_neg (show ¬ ((1 : Int32) = 3) by decide))
    have e := e.trans (if_pos (show (1 : Int32) = 1 from rfl))
    exact ⟨_, _, e, h2, rfl, (fun c => absurd (show (2 : Int32) = 0 from c) (by decide)), hN, hX, hH, hG⟩
  · have e := lo_touch (out := out) h1
    have e := e.trans (if_neg (show ¬ ((2 : Int32) = 0) by decide))
    have e := e.trans (if_neg (show ¬ ((2 : Int32) = 3) by decide))
    have e := e.trans (if_neg (show ¬ ((2 : Int32) = 1) by decide))
    have e := e.trans (if_pos (show (2 : Int32) = 2 from rfl))
    exact ⟨_, _, e, h2, rfl, (fun c => absurd (show (3 : Int32) = 0 from c) (by decide)), hN, hX, hH, hG⟩
  · have e := lo_touch (out := out) h1
    have e := e.trans (if_pos (show (0 : Int32) = 0 from rfl))
    exact ⟨_, _, e, h2, rfl, (fun _ => updL0 (f := out)), hN', hX, hH', hG⟩
theorem lo_set {znsto : Int32} {zndro : Int32} {znfou : Int32} {zntold : Int32} {znle : kF} {znsh : kF} {znrolls : Int32} {znfrm : Int32} {zntk : kF} {znsr : kF} {znse : kF} {zhsz : Int32} {zhnx : Int32} {out : Nat → Int64} {hs : Nat → kSt} {x1 : Int32} {x2 : Int32} {ox : Int32 × Int32 × kF × Int32 × Int32 × (Nat → kSt)} (h : fn_X7_set znsto zndro znfou zntold znle znsh znrolls znfrm zntk znsr znse zhsz zhnx hs x1 x2 = some ox) : fn_L_set znsto zndro znfou zntold znle znsh znrolls znfrm zntk znsr znse zhsz zhnx out hs x1 x2 = if ox.1 = 0 then some ((0 : Int32), ox.2.2.1, ox.2.2.2.1, ox.2.2.2.2.1, (vp_updL out 0 ((ox.2.1).toInt64)), ox.2.2.2.2.2) else if ox.1 = 1 then some ((1 : Int32), ox.2.2.1, ox.2.2.2.1, ox.2.2.2.2.1, out, ox.2.2.2.2.2) else none := by
  unfold fn_L_set
  rw [h, kbs]
theorem gl_set {n t : kSt} {hs gs : Nat → kSt} {len hsz hnx mref msize macts mspot mout : Int32} {sg lk mtext mnow mtrial mdiary mkept misk mside mwas : kF} {out : Nat → Int64} {x1 : Int32} {x2 : Int32} (h : LI n sg len hsz hnx hs lk gs msize macts mtext mnow mdiary mkept misk) : ∃ (o : Int32 × kF × Int32 × Int32 × (Nat → Int64) × (Nat → kSt)) (o' : Int32 × Int32 × Int32 × kF × kF), fn_L_set n.1 n.2.1 n.2.2.1 n.2.2.2.1 n.2.2.2.2.2.2.1 n.2.2.2.2.2.2.2.1 n.2.2.2.2.2.2.2.2.1 n.2.2.2.2.2.2.2.2.2.1 n.2.2.2.2.2.2.2.2.2.2.1 n.2.2.2.2.2.2.2.2.2.2.2.1 n.2.2.2.2.2.2.2.2.2.2.2.2 hsz hnx out hs x1 x2 = some o ∧ fn_X8_set mref macts mnow mdiary x1 x2 = some o' ∧ o'.2.1 = o.1 ∧ (o.1 = 0 → (o.2.2.2.2.1 0) = (o'.1).toInt64) ∧ LI (n.1, n.2.1, n.2.2.1, n.2.2.2.1, n.2.2.2.2.1, n.2.2.2.2.2.1, n.2.2.2.2.2.2.1, n.2.2.2.2.2.2.2.1, n.2.2.2.2.2.2.2.2.1, n.2.2.2.2.2.2.2.2.2.1, n.2.2.2.2.2.2.2.2.2.2.1, n.2.2.2.2.2.2.2.2.2.2.2.1, o.2.1) sg len o.2.2.1 o.2.2.2.1 o.2.2.2.2.2 lk gs msize o'.2.2.1 mtext o'.2.2.2.1 o'.2.2.2.2 mkept misk := by
  obtain ⟨hN, hX, hH, hG⟩ := h
  obtain ⟨_, _, _, _, _, _, _, _, hd⟩ := sim_setA (ref := mref) (x1 := x1) (x2 := x2) hH hN
  rcases hd with ⟨h1, h2⟩ | ⟨h1, h2, hH', hN'⟩
  · have e := lo_set (out := out) h1
    have e := e.trans (if_neg (show ¬ ((1 : Int32) = 0) by decide))
    have e := e.trans (if_pos (show (1 : Int32) = 1 from rfl))
    exact ⟨_, _, e, h2, rfl, (fun c => absurd (show (1 : Int32) = 0 from c) (by decide)), hN, hX, hH, hG⟩
  · have e := lo_set (out := out) h1
    have e := e.trans (if_pos (show (0 : Int32) = 0 from rfl))
    exact ⟨_, _, e, h2, rfl, (fun _ => updL0 (f := out)), hN', hX, hH', hG⟩
theorem lo_undo {znsto : Int32} {zndro : Int32} {znfou : Int32} {zntold : Int32} {znle : kF} {znsh : kF} {znrolls : Int32} {znfrm : Int32} {zntk : kF} {znsr : kF} {znse : kF} {zhsz : Int32} {zhnx : Int32} {out : Nat → Int64} {hs : Nat → kSt} {ox : Int32 × Int32 × Int32 × Int32 × Int32 × Int32 × kF × kF × Int32 × Int32 × kF × kF × kF × Int32 × Int32} (h : fn_X7_undo znsto zndro znfou zntold znle znsh znrolls znfrm zntk znsr znse zhsz zhnx hs = some ox) : fn_L_undo znsto zndro znfou zntold znle znsh znrolls znfrm zntk znsr znse zhsz zhnx out hs = if ox.1 = 0 then some ((0 : Int32), ox.2.2.1, ox.2.2.2.1, ox.2.2.2.2.1, ox.2.2.2.2.2.1, ox.2.2.2.2.2.2.1, ox.2.2.2.2.2.2.2.1, ox.2.2.2.2.2.2.2.2.1, ox.2.2.2.2.2.2.2.2.2.1, ox.2.2.2.2.2.2.2.2.2.2.1, ox.2.2.2.2.2.2.2.2.2.2.2.1, ox.2.2.2.2.2.2.2.2.2.2.2.2.1, ox.2.2.2.2.2.2.2.2.2.2.2.2.2.1, ox.2.2.2.2.2.2.2.2.2.2.2.2.2.2, (vp_updL out 0 ((ox.2.1).toInt64))) else if ox.1 = 2 then some ((1 : Int32), ox.2.2.1, ox.2.2.2.1, ox.2.2.2.2.1, ox.2.2.2.2.2.1, ox.2.2.2.2.2.2.1, ox.2.2.2.2.2.2.2.1, ox.2.2.2.2.2.2.2.2.1, ox.2.2.2.2.2.2.2.2.2.1, ox.2.2.2.2.2.2.2.2.2.2.1, ox.2.2.2.2.2.2.2.2.2.2.2.1, ox.2.2.2.2.2.2.2.2.2.2.2.2.1, ox.2.2.2.2.2.2.2.2.2.2.2.2.2.1, ox.2.2.2.2.2.2.2.2.2.2.2.2.2.2, out) else none := by
  unfold fn_L_undo
  rw [h, kbs]
theorem gl_undo {n t : kSt} {hs gs : Nat → kSt} {len hsz hnx mref msize macts mspot mout : Int32} {sg lk mtext mnow mtrial mdiary mkept misk mside mwas : kF} {out : Nat → Int64}  (h : LI n sg len hsz hnx hs lk gs msize macts mtext mnow mdiary mkept misk) : ∃ (o : Int32 × Int32 × Int32 × Int32 × Int32 × kF × kF × Int32 × Int32 × kF × kF × kF × Int32 × Int32 × (Nat → Int64)) (o' : Int32 × Int32 × Int32 × kF), fn_L_undo n.1 n.2.1 n.2.2.1 n.2.2.2.1 n.2.2.2.2.2.2.1 n.2.2.2.2.2.2.2.1 n.2.2.2.2.2.2.2.2.1 n.2.2.2.2.2.2.2.2.2.1 n.2.2.2.2.2.2.2.2.2.2.1 n.2.2.2.2.2.2.2.2.2.2.2.1 n.2.2.2.2.2.2.2.2.2.2.2.2 hsz hnx out hs = some o ∧ fn_X8_undo mref macts mnow mdiary = some o' ∧ o'.2.1 = o.1 ∧ (o.1 = 0 → (o.2.2.2.2.2.2.2.2.2.2.2.2.2.2 0) = (o'.1).toInt64) ∧ LI (o.2.1, o.2.2.1, o.2.2.2.1, o.2.2.2.2.1, n.2.2.2.2.1, n.2.2.2.2.2.1, o.2.2.2.2.2.1, o.2.2.2.2.2.2.1, o.2.2.2.2.2.2.2.1, o.2.2.2.2.2.2.2.2.1, o.2.2.2.2.2.2.2.2.2.1, o.2.2.2.2.2.2.2.2.2.2.1, o.2.2.2.2.2.2.2.2.2.2.2.1) sg len o.2.2.2.2.2.2.2.2.2.2.2.2.1 o.2.2.2.2.2.2.2.2.2.2.2.2.2.1 hs lk gs msize o'.2.2.1 mtext o'.2.2.2 mdiary mkept misk := by
  obtain ⟨hN, hX, hH, hG⟩ := h
  obtain ⟨_, _, _, _, _, _, _, _, _, _, _, _, _, _, _, _, hd⟩ := sim_undo (ref := mref) hH hN
  rcases hd with ⟨h1, h2⟩ | ⟨h1, h2, hH', hN'⟩
  · have e := lo_undo (out := out) h1
    have e := e.trans (if_neg (show ¬ ((2 : Int32) = 0) by decide))
    have e := e.trans (if_pos (show (2 : Int32) = 2 from rfl))
    exact ⟨_, _, e, h2, rfl, (fun c => absurd (show (1 : Int32) = 0 from c) (by decide)), hN, hX, hH, hG⟩
  · have e := lo_undo (out := out) h1
    have e := e.trans (if_pos (show (0 : Int32) = 0 from rfl))
    exact ⟨_, _, e, h2, rfl, (fun _ => updL0 (f := out)), hN', hX, hH', hG⟩
theorem lo_would {zntold : Int32} {znle : kF} {znsh : kF} {znse : kF} {zttold : Int32} {ztwl : Int32} {ztwr : Int32} {ztle : kF} {ztsh : kF} {out : Nat → Int64} {x1 : Int32} {x2 : Int32} {x3 : Int32} {ox : Int32 × Int32 × Int32 × Int32 × Int32 × kF × kF} (h : fn_X7_would zntold znle znsh znse zttold ztwl ztwr ztle ztsh x1 x2 x3 = some ox) : fn_L_would zntold znle znsh znse zttold ztwl ztwr ztle ztsh out x1 x2 x3 = if ox.1 = 0 then some ((0 : Int32), ox.2.2.1, ox.2.2.2.1, ox.2.2.2.2.1, ox.2.2.2.2.2.1, ox.2.2.2.2.2.2, (vp_updL out 0 ((ox.2.1).toInt64))) else if ox.1 = 1 then some ((1 : Int32), ox.2.2.1, ox.2.2.2.1, ox.2.2.2.2.1, ox.2.2.2.2.2.1, ox.2.2.2.2.2.2, out) else none := by
  unfold fn_L_would
  rw [h, kbs]
theorem gl_would {n t : kSt} {hs gs : Nat → kSt} {len hsz hnx mref msize macts mspot mout : Int32} {sg lk mtext mnow mtrial mdiary mkept misk mside mwas : kF} {out : Nat → Int64} {x1 : Int32} {x2 : Int32} {x3 : Int32} (h : LI n sg len hsz hnx hs lk gs msize macts mtext mnow mdiary mkept misk) : ∃ (o : Int32 × Int32 × Int32 × Int32 × kF × kF × (Nat → Int64)) (o' : Int32 × Int32 × kF × kF), fn_L_would n.2.2.2.1 n.2.2.2.2.2.2.1 n.2.2.2.2.2.2.2.1 n.2.2.2.2.2.2.2.2.2.2.2.2 t.2.2.2.1 t.2.2.2.2.1 t.2.2.2.2.2.1 t.2.2.2.2.2.2.1 t.2.2.2.2.2.2.2.1 out x1 x2 x3 = some o ∧ fn_X8_would mref mnow mtrial mside x1 x2 x3 = some o' ∧ o'.2.1 = o.1 ∧ (o.1 = 0 → (o.2.2.2.2.2.2 0) = (o'.1).toInt64) ∧ LI n sg len hsz hnx hs lk gs msize macts mtext mnow mdiary mkept misk := by
  obtain ⟨hN, hX, hH, hG⟩ := h
  obtain ⟨_, _, _, _, _, _, _, _, hd⟩ := sim_would (ref := mref) (ttold := t.2.2.2.1) (twl := t.2.2.2.2.1) (twr := t.2.2.2.2.2.1) (tle := t.2.2.2.2.2.2.1) (tsh := t.2.2.2.2.2.2.2.1) (x1 := x1) (x2 := x2) (x3 := x3) (trial := mtrial) (side := mside) hN
  rcases hd with ⟨h1, h2⟩ | ⟨h1, h2⟩
  · have e := lo_would (out := out) h1
    have e := e.trans (if_neg (show ¬ ((1 : Int32) = 0) by decide))
    have e := e.trans (if_pos (show (1 : Int32) = 1 from rfl))
    exact ⟨_, _, e, h2, rfl, (fun c => absurd (show (1 : Int32) = 0 from c) (by decide)), hN, hX, hH, hG⟩
  · have e := lo_would (out := out) h1
    have e := e.trans (if_pos (show (0 : Int32) = 0 from rfl))
    exact ⟨_, _, e, h2, rfl, (fun _ => updL0 (f := out)), hN, hX, hH, hG⟩
theorem lo_bestBoard {zntold : Int32} {znle : kF} {znsh : kF} {znse : kF} {zttold : Int32} {ztwl : Int32} {ztwr : Int32} {ztle : kF} {ztsh : kF} {out : Nat → Int64} {x1 : Int32} {ox : Int32 × Int32 × Int32 × Int32 × Int32 × kF × kF} (h : fn_X7_bestBoard zntold znle znsh znse zttold ztwl ztwr ztle ztsh x1 = some ox) : fn_L_bestBoard zntold znle znsh znse zttold ztwl ztwr ztle ztsh out x1 = if ox.1 = 0 then some ((0 : Int32), ox.2.2.1, ox.2.2.2.1, ox.2.2.2.2.1, ox.2.2.2.2.2.1, ox.2.2.2.2.2.2, (vp_updL out 0 ((ox.2.1).toInt64))) else if ox.1 = 1 then some ((1 : Int32), ox.2.2.1, ox.2.2.2.1, ox.2.2.2.2.1, ox.2.2.2.2.2.1, ox.2.2.2.2.2.2, out) else none := by
  unfold fn_L_bestBoard
  rw [h, kbs]
theorem gl_bestBoard {n t : kSt} {hs gs : Nat → kSt} {len hsz hnx mref msize macts mspot mout : Int32} {sg lk mtext mnow mtrial mdiary mkept misk mside mwas : kF} {out : Nat → Int64} {x1 : Int32} (h : LI n sg len hsz hnx hs lk gs msize macts mtext mnow mdiary mkept misk) : ∃ (o : Int32 × Int32 × Int32 × Int32 × kF × kF × (Nat → Int64)) (o' : Int32 × Int32 × kF × kF), fn_L_bestBoard n.2.2.2.1 n.2.2.2.2.2.2.1 n.2.2.2.2.2.2.2.1 n.2.2.2.2.2.2.2.2.2.2.2.2 t.2.2.2.1 t.2.2.2.2.1 t.2.2.2.2.2.1 t.2.2.2.2.2.2.1 t.2.2.2.2.2.2.2.1 out x1 = some o ∧ fn_X8_bestBoard mref mnow mtrial mside x1 = some o' ∧ o'.2.1 = o.1 ∧ (o.1 = 0 → (o.2.2.2.2.2.2 0) = (o'.1).toInt64) ∧ LI n sg len hsz hnx hs lk gs msize macts mtext mnow mdiary mkept misk := by
  obtain ⟨hN, hX, hH, hG⟩ := h
  obtain ⟨_, _, _, _, _, _, _, _, hd⟩ := sim_best (ref := mref) (ttold := t.2.2.2.1) (twl := t.2.2.2.2.1) (twr := t.2.2.2.2.2.1) (tle := t.2.2.2.2.2.2.1) (tsh := t.2.2.2.2.2.2.2.1) (x1 := x1) (trial := mtrial) (side := mside) hN
  rcases hd with ⟨h1, h2⟩ | ⟨h1, h2⟩
  · have e := lo_bestBoard (out := out) h1
    have e := e.trans (if_neg (show ¬ ((1 : Int32) = 0) by decide))
    have e := e.trans (if_pos (show (1 : Int32) = 1 from rfl))
    exact ⟨_, _, e, h2, rfl, (fun c => absurd (show (1 : Int32) = 0 from c) (by decide)), hN, hX, hH, hG⟩
  · have e := lo_bestBoard (out := out) h1
    have e := e.trans (if_pos (show (0 : Int32) = 0 from rfl))
    exact ⟨_, _, e, h2, rfl, (fun _ => updL0 (f := out)), hN, hX, hH, hG⟩
theorem gl_slowest {n t : kSt} {hs gs : Nat → kSt} {len hsz hnx mref msize macts mspot mout : Int32} {sg lk mtext mnow mtrial mdiary mkept misk mside mwas : kF} {out : Nat → Int64}  (h : LI n sg len hsz hnx hs lk gs msize macts mtext mnow mdiary mkept misk) : ∃ (o : Int32) (o' : Int32 × Int32), fn_X7_slowest n.2.2.2.2.2.2.2.2.2.2.2.2 = some o ∧ fn_X8_slowest mref mnow = some o' ∧ o = o'.1 ∧ LI n sg len hsz hnx hs lk gs msize macts mtext mnow mdiary mkept misk := by
  obtain ⟨hN, hX, hH, hG⟩ := h
  obtain ⟨_, hd⟩ := sim_slowest (ref := mref) hN
  obtain ⟨h1, h2⟩ := hd
  exact ⟨_, _, h1, h2, rfl, hN, hX, hH, hG⟩
theorem lo_goesOn {znsto : Int32} {zndro : Int32} {znfou : Int32} {zntold : Int32} {znle : kF} {znsh : kF} {znrolls : Int32} {znfrm : Int32} {zntk : kF} {znsr : kF} {znse : kF} {ztsto : Int32} {ztdro : Int32} {ztfou : Int32} {zttold : Int32} {ztwl : Int32} {ztwr : Int32} {ztle : kF} {ztsh : kF} {ztrolls : Int32} {ztfrm : Int32} {zttk : kF} {ztsr : kF} {ztse : kF} {out : Nat → Int64} {x1 : Int32} {x2 : Int32} {ox : Int32 × Int32 × Int32 × Int32 × Int32 × Int32 × Int32 × Int32 × kF × kF × Int32 × Int32 × kF × kF × kF} (h : fn_X7_goesOn znsto zndro znfou zntold znle znsh znrolls znfrm zntk znsr znse ztsto ztdro ztfou zttold ztwl ztwr ztle ztsh ztrolls ztfrm zttk ztsr ztse x1 x2 = some ox) : fn_L_goesOn znsto zndro znfou zntold znle znsh znrolls znfrm zntk znsr znse ztsto ztdro ztfou zttold ztwl ztwr ztle ztsh ztrolls ztfrm zttk ztsr ztse out x1 x2 = if ox.1 = 0 then some ((0 : Int32), ox.2.2.1, ox.2.2.2.1, ox.2.2.2.2.1, ox.2.2.2.2.2.1, ox.2.2.2.2.2.2.1, ox.2.2.2.2.2.2.2.1, ox.2.2.2.2.2.2.2.2.1, ox.2.2.2.2.2.2.2.2.2.1, ox.2.2.2.2.2.2.2.2.2.2.1, ox.2.2.2.2.2.2.2.2.2.2.2.1, ox.2.2.2.2.2.2.2.2.2.2.2.2.1, ox.2.2.2.2.2.2.2.2.2.2.2.2.2.1, ox.2.2.2.2.2.2.2.2.2.2.2.2.2.2, (vp_updL out 0 ((ox.2.1).toInt64))) else if ox.1 = 1 then some ((1 : Int32), ox.2.2.1, ox.2.2.2.1, ox.2.2.2.2.1, ox.2.2.2.2.2.1, ox.2.2.2.2.2.2.1, ox.2.2.2.2.2.2.2.1, ox.2.2.2.2.2.2.2.2.1, ox.2.2.2.2.2.2.2.2.2.1, ox.2.2.2.2.2.2.2.2.2.2.1, ox.2.2.2.2.2.2.2.2.2.2.2.1, ox.2.2.2.2.2.2.2.2.2.2.2.2.1, ox.2.2.2.2.2.2.2.2.2.2.2.2.2.1, ox.2.2.2.2.2.2.2.2.2.2.2.2.2.2, out) else none := by
  unfold fn_L_goesOn
  rw [h, kbs]
theorem gl_goesOn {n t : kSt} {hs gs : Nat → kSt} {len hsz hnx mref msize macts mspot mout : Int32} {sg lk mtext mnow mtrial mdiary mkept misk mside mwas : kF} {out : Nat → Int64} {x1 : Int32} {x2 : Int32} (h : LI n sg len hsz hnx hs lk gs msize macts mtext mnow mdiary mkept misk) : ∃ (o : Int32 × Int32 × Int32 × Int32 × Int32 × Int32 × Int32 × kF × kF × Int32 × Int32 × kF × kF × kF × (Nat → Int64)) (o' : Int32 × Int32 × kF × kF × kF), fn_L_goesOn n.1 n.2.1 n.2.2.1 n.2.2.2.1 n.2.2.2.2.2.2.1 n.2.2.2.2.2.2.2.1 n.2.2.2.2.2.2.2.2.1 n.2.2.2.2.2.2.2.2.2.1 n.2.2.2.2.2.2.2.2.2.2.1 n.2.2.2.2.2.2.2.2.2.2.2.1 n.2.2.2.2.2.2.2.2.2.2.2.2 t.1 t.2.1 t.2.2.1 t.2.2.2.1 t.2.2.2.2.1 t.2.2.2.2.2.1 t.2.2.2.2.2.2.1 t.2.2.2.2.2.2.2.1 t.2.2.2.2.2.2.2.2.1 t.2.2.2.2.2.2.2.2.2.1 t.2.2.2.2.2.2.2.2.2.2.1 t.2.2.2.2.2.2.2.2.2.2.2.1 t.2.2.2.2.2.2.2.2.2.2.2.2 out x1 x2 = some o ∧ fn_X8_goesOn mref mnow mtrial mside mwas x1 x2 = some o' ∧ o'.2.1 = o.1 ∧ (o.1 = 0 → (o.2.2.2.2.2.2.2.2.2.2.2.2.2.2 0) = (o'.1).toInt64) ∧ LI n sg len hsz hnx hs lk gs msize macts mtext mnow mdiary mkept misk := by
  obtain ⟨hN, hX, hH, hG⟩ := h
  obtain ⟨_, _, _, _, _, _, _, _, _, _, _, _, _, _, _, _, _, hd⟩ := sim_goesOn (ref := mref) (tsto := t.1) (tdro := t.2.1) (tfou := t.2.2.1) (ttold := t.2.2.2.1) (twl := t.2.2.2.2.1) (twr := t.2.2.2.2.2.1) (tle := t.2.2.2.2.2.2.1) (tsh := t.2.2.2.2.2.2.2.1) (trolls := t.2.2.2.2.2.2.2.2.1) (tfrm := t.2.2.2.2.2.2.2.2.2.1) (ttk := t.2.2.2.2.2.2.2.2.2.2.1) (tsr := t.2.2.2.2.2.2.2.2.2.2.2.1) (tse := t.2.2.2.2.2.2.2.2.2.2.2.2) (x1 := x1) (x2 := x2) (trial := mtrial) (side := mside) (was := mwas) hN
  rcases hd with ⟨-, h1, h2⟩ | ⟨h1, h2⟩
  · have e := lo_goesOn (out := out) h1
    have e := e.trans (if_neg (show ¬ ((1 : Int32) = 0) by decide))
    have e := e.trans (if_pos (show (1 : Int32) = 1 from rfl))
    exact ⟨_, _, e, h2, rfl, (fun c => absurd (show (1 : Int32) = 0 from c) (by decide)), hN, hX, hH, hG⟩
  · have e := lo_goesOn (out := out) h1
    have e := e.trans (if_pos (show (0 : Int32) = 0 from rfl))
    exact ⟨_, _, e, h2, rfl, (fun _ => updL0 (f := out)), hN, hX, hH, hG⟩
theorem gl_drops {n t : kSt} {hs gs : Nat → kSt} {len hsz hnx mref msize macts mspot mout : Int32} {sg lk mtext mnow mtrial mdiary mkept misk mside mwas : kF} {out : Nat → Int64}  (h : LI n sg len hsz hnx hs lk gs msize macts mtext mnow mdiary mkept misk) : ∃ (o : Int32) (o' : Int32 × Int32), fn_X7_drops n.2.2.2.1 n.2.2.2.2.2.2.1 n.2.2.2.2.2.2.2.2.2.2.2.2 = some o ∧ fn_X8_drops mref mnow = some o' ∧ o = o'.1 ∧ LI n sg len hsz hnx hs lk gs msize macts mtext mnow mdiary mkept misk := by
  obtain ⟨hN, hX, hH, hG⟩ := h
  obtain ⟨_, hd⟩ := sim_drops (ref := mref) hN
  obtain ⟨h1, h2⟩ := hd
  exact ⟨_, _, h1, h2, rfl, hN, hX, hH, hG⟩
theorem lo_runScript {znsto : Int32} {zndro : Int32} {znfou : Int32} {zntold : Int32} {znle : kF} {znsh : kF} {znrolls : Int32} {znfrm : Int32} {zntk : kF} {znsr : kF} {znse : kF} {ztsto : Int32} {ztdro : Int32} {ztfou : Int32} {zttold : Int32} {ztwl : Int32} {ztwr : Int32} {ztle : kF} {ztsh : kF} {ztrolls : Int32} {ztfrm : Int32} {zttk : kF} {ztsr : kF} {ztse : kF} {out : Nat → Int64} {x1 : Int32} {x2 : Int64} {ox : Int32 × Int32 × Int32 × Int32 × Int32 × Int32 × Int32 × Int32 × kF × kF × Int32 × Int32 × kF × kF × kF} (h : fn_X7_runScript znsto zndro znfou zntold znle znsh znrolls znfrm zntk znsr znse ztsto ztdro ztfou zttold ztwl ztwr ztle ztsh ztrolls ztfrm zttk ztsr ztse x1 x2 = some ox) : fn_L_runScript znsto zndro znfou zntold znle znsh znrolls znfrm zntk znsr znse ztsto ztdro ztfou zttold ztwl ztwr ztle ztsh ztrolls ztfrm zttk ztsr ztse out x1 x2 = if ox.1 = 0 then some ((0 : Int32), ox.2.2.1, ox.2.2.2.1, ox.2.2.2.2.1, ox.2.2.2.2.2.1, ox.2.2.2.2.2.2.1, ox.2.2.2.2.2.2.2.1, ox.2.2.2.2.2.2.2.2.1, ox.2.2.2.2.2.2.2.2.2.1, ox.2.2.2.2.2.2.2.2.2.2.1, ox.2.2.2.2.2.2.2.2.2.2.2.1, ox.2.2.2.2.2.2.2.2.2.2.2.2.1, ox.2.2.2.2.2.2.2.2.2.2.2.2.2.1, ox.2.2.2.2.2.2.2.2.2.2.2.2.2.2, (vp_updL out 0 ((ox.2.1).toInt64))) else if ox.1 = 1 then some ((1 : Int32), ox.2.2.1, ox.2.2.2.1, ox.2.2.2.2.1, ox.2.2.2.2.2.1, ox.2.2.2.2.2.2.1, ox.2.2.2.2.2.2.2.1, ox.2.2.2.2.2.2.2.2.1, ox.2.2.2.2.2.2.2.2.2.1, ox.2.2.2.2.2.2.2.2.2.2.1, ox.2.2.2.2.2.2.2.2.2.2.2.1, ox.2.2.2.2.2.2.2.2.2.2.2.2.1, ox.2.2.2.2.2.2.2.2.2.2.2.2.2.1, ox.2.2.2.2.2.2.2.2.2.2.2.2.2.2, out) else none := by
  unfold fn_L_runScript
  rw [h, kbs]
theorem gl_runScript {n t : kSt} {hs gs : Nat → kSt} {len hsz hnx mref msize macts mspot mout : Int32} {sg lk mtext mnow mtrial mdiary mkept misk mside mwas : kF} {out : Nat → Int64} {x1 : Int32} {x2 : Int64} (h : LI n sg len hsz hnx hs lk gs msize macts mtext mnow mdiary mkept misk) : ∃ (o : Int32 × Int32 × Int32 × Int32 × Int32 × Int32 × Int32 × kF × kF × Int32 × Int32 × kF × kF × kF × (Nat → Int64)) (o' : Int32 × Int32 × kF × kF × kF), fn_L_runScript n.1 n.2.1 n.2.2.1 n.2.2.2.1 n.2.2.2.2.2.2.1 n.2.2.2.2.2.2.2.1 n.2.2.2.2.2.2.2.2.1 n.2.2.2.2.2.2.2.2.2.1 n.2.2.2.2.2.2.2.2.2.2.1 n.2.2.2.2.2.2.2.2.2.2.2.1 n.2.2.2.2.2.2.2.2.2.2.2.2 t.1 t.2.1 t.2.2.1 t.2.2.2.1 t.2.2.2.2.1 t.2.2.2.2.2.1 t.2.2.2.2.2.2.1 t.2.2.2.2.2.2.2.1 t.2.2.2.2.2.2.2.2.1 t.2.2.2.2.2.2.2.2.2.1 t.2.2.2.2.2.2.2.2.2.2.1 t.2.2.2.2.2.2.2.2.2.2.2.1 t.2.2.2.2.2.2.2.2.2.2.2.2 out x1 x2 = some o ∧ fn_X8_runScript mref mnow mtrial mside mwas x1 x2 = some o' ∧ o'.2.1 = o.1 ∧ (o.1 = 0 → (o.2.2.2.2.2.2.2.2.2.2.2.2.2.2 0) = (o'.1).toInt64) ∧ LI n sg len hsz hnx hs lk gs msize macts mtext mnow mdiary mkept misk := by
  obtain ⟨hN, hX, hH, hG⟩ := h
  obtain ⟨_, _, _, _, _, _, _, _, _, _, _, _, _, _, _, _, _, hd⟩ := sim_script (ref := mref) (tsto := t.1) (tdro := t.2.1) (tfou := t.2.2.1) (ttold := t.2.2.2.1) (twl := t.2.2.2.2.1) (twr := t.2.2.2.2.2.1) (tle := t.2.2.2.2.2.2.1) (tsh := t.2.2.2.2.2.2.2.1) (trolls := t.2.2.2.2.2.2.2.2.1) (tfrm := t.2.2.2.2.2.2.2.2.2.1) (ttk := t.2.2.2.2.2.2.2.2.2.2.1) (tsr := t.2.2.2.2.2.2.2.2.2.2.2.1) (tse := t.2.2.2.2.2.2.2.2.2.2.2.2) (x1 := x1) (x2 := x2) (trial := mtrial) (side := mside) (was := mwas) hN
  rcases hd with ⟨h1, h2⟩ | ⟨h1, h2⟩
  · have e := lo_runScript (out := out) h1
    have e := e.trans (if_neg (show ¬ ((1 : Int32) = 0) by decide))
    have e := e.trans (if_pos (show (1 : Int32) = 1 from rfl))
    exact ⟨_, _, e, h2, rfl, (fun c => absurd (show (1 : Int32) = 0 from c) (by decide)), hN, hX, hH, hG⟩
  · have e := lo_runScript (out := out) h1
    have e := e.trans (if_pos (show (0 : Int32) = 0 from rfl))
    exact ⟨_, _, e, h2, rfl, (fun _ => updL0 (f := out)), hN, hX, hH, hG⟩
theorem lo_simulate {znsto : Int32} {zndro : Int32} {znfou : Int32} {zntold : Int32} {znle : kF} {znsh : kF} {znrolls : Int32} {znfrm : Int32} {zntk : kF} {znsr : kF} {znse : kF} {ztsto : Int32} {ztdro : Int32} {ztfou : Int32} {zttold : Int32} {ztwl : Int32} {ztwr : Int32} {ztle : kF} {ztsh : kF} {ztrolls : Int32} {ztfrm : Int32} {zttk : kF} {ztsr : kF} {ztse : kF} {out : Nat → Int64} {x1 : Int64} {x3 : Int32} {ox : Int32 × Int32 × Int32 × Int32 × Int32 × Int32 × Int32 × Int32 × kF × kF × Int32 × Int32 × kF × kF × kF} (h : fn_X7_simulate znsto zndro znfou zntold znle znsh znrolls znfrm zntk znsr znse ztsto ztdro ztfou zttold ztwl ztwr ztle ztsh ztrolls ztfrm zttk ztsr ztse x1 x3 = some ox) : fn_L_simulate znsto zndro znfou zntold znle znsh znrolls znfrm zntk znsr znse ztsto ztdro ztfou zttold ztwl ztwr ztle ztsh ztrolls ztfrm zttk ztsr ztse out x1 x3 = if ox.1 = 0 then some ((0 : Int32), ox.2.2.1, ox.2.2.2.1, ox.2.2.2.2.1, ox.2.2.2.2.2.1, ox.2.2.2.2.2.2.1, ox.2.2.2.2.2.2.2.1, ox.2.2.2.2.2.2.2.2.1, ox.2.2.2.2.2.2.2.2.2.1, ox.2.2.2.2.2.2.2.2.2.2.1, ox.2.2.2.2.2.2.2.2.2.2.2.1, ox.2.2.2.2.2.2.2.2.2.2.2.2.1, ox.2.2.2.2.2.2.2.2.2.2.2.2.2.1, ox.2.2.2.2.2.2.2.2.2.2.2.2.2.2, (vp_updL out 0 ((ox.2.1).toInt64))) else if ox.1 = 1 then some ((1 : Int32), ox.2.2.1, ox.2.2.2.1, ox.2.2.2.2.1, ox.2.2.2.2.2.1, ox.2.2.2.2.2.2.1, ox.2.2.2.2.2.2.2.1, ox.2.2.2.2.2.2.2.2.1, ox.2.2.2.2.2.2.2.2.2.1, ox.2.2.2.2.2.2.2.2.2.2.1, ox.2.2.2.2.2.2.2.2.2.2.2.1, ox.2.2.2.2.2.2.2.2.2.2.2.2.1, ox.2.2.2.2.2.2.2.2.2.2.2.2.2.1, ox.2.2.2.2.2.2.2.2.2.2.2.2.2.2, out) else none := by
  unfold fn_L_simulate
  rw [h, kbs]
theorem gl_simulate {n t : kSt} {hs gs : Nat → kSt} {len hsz hnx mref msize macts mspot mout : Int32} {sg lk mtext mnow mtrial mdiary mkept misk mside mwas : kF} {out : Nat → Int64} {x1 : Int64} {x3 : Int32} (h : LI n sg len hsz hnx hs lk gs msize macts mtext mnow mdiary mkept misk) : ∃ (o : Int32 × Int32 × Int32 × Int32 × Int32 × Int32 × Int32 × kF × kF × Int32 × Int32 × kF × kF × kF × (Nat → Int64)) (o' : Int32 × Int32 × kF × kF × kF), fn_L_simulate n.1 n.2.1 n.2.2.1 n.2.2.2.1 n.2.2.2.2.2.2.1 n.2.2.2.2.2.2.2.1 n.2.2.2.2.2.2.2.2.1 n.2.2.2.2.2.2.2.2.2.1 n.2.2.2.2.2.2.2.2.2.2.1 n.2.2.2.2.2.2.2.2.2.2.2.1 n.2.2.2.2.2.2.2.2.2.2.2.2 t.1 t.2.1 t.2.2.1 t.2.2.2.1 t.2.2.2.2.1 t.2.2.2.2.2.1 t.2.2.2.2.2.2.1 t.2.2.2.2.2.2.2.1 t.2.2.2.2.2.2.2.2.1 t.2.2.2.2.2.2.2.2.2.1 t.2.2.2.2.2.2.2.2.2.2.1 t.2.2.2.2.2.2.2.2.2.2.2.1 t.2.2.2.2.2.2.2.2.2.2.2.2 out x1 x3 = some o ∧ fn_X8_simulate mref mnow mtrial mside mwas x1 x3 = some o' ∧ o'.2.1 = o.1 ∧ (o.1 = 0 → (o.2.2.2.2.2.2.2.2.2.2.2.2.2.2 0) = (o'.1).toInt64) ∧ LI n sg len hsz hnx hs lk gs msize macts mtext mnow mdiary mkept misk := by
  obtain ⟨hN, hX, hH, hG⟩ := h
  obtain ⟨_, _, _, _, _, _, _, _, _, _, _, _, _, _, _, _, _, hd⟩ := sim_simulate (ref := mref) (tsto := t.1) (tdro := t.2.1) (tfou := t.2.2.1) (ttold := t.2.2.2.1) (twl := t.2.2.2.2.1) (twr := t.2.2.2.2.2.1) (tle := t.2.2.2.2.2.2.1) (tsh := t.2.2.2.2.2.2.2.1) (trolls := t.2.2.2.2.2.2.2.2.1) (tfrm := t.2.2.2.2.2.2.2.2.2.1) (ttk := t.2.2.2.2.2.2.2.2.2.2.1) (tsr := t.2.2.2.2.2.2.2.2.2.2.2.1) (tse := t.2.2.2.2.2.2.2.2.2.2.2.2) (x1 := x1) (x3 := x3) (trial := mtrial) (side := mside) (was := mwas) hN
  rcases hd with ⟨-, h1, h2⟩ | ⟨-, h1, h2, -⟩
  · have e := lo_simulate (out := out) h1
    have e := e.trans (if_neg (show ¬ ((1 : Int32) = 0) by decide))
    have e := e.trans (if_pos (show (1 : Int32) = 1 from rfl))
    exact ⟨_, _, e, h2, rfl, (fun c => absurd (show (1 : Int32) = 0 from c) (by decide)), hN, hX, hH, hG⟩
  · have e := lo_simulate (out := out) h1
    have e := e.trans (if_pos (show (0 : Int32) = 0 from rfl))
    exact ⟨_, _, e, h2, rfl, (fun _ => updL0 (f := out)), hN, hX, hH, hG⟩
theorem lo_save {znsto : Int32} {zndro : Int32} {znfou : Int32} {zntold : Int32} {znle : kF} {znsh : kF} {znrolls : Int32} {znfrm : Int32} {zntk : kF} {znsr : kF} {znse : kF} {zlk : kF} {out : Nat → Int64} {gs : Nat → kSt} {x1 : Int32} {ox : Int32 × Int32 × kF × (Nat → kSt)} (h : fn_X7_save znsto zndro znfou zntold znle znsh znrolls znfrm zntk znsr znse zlk gs x1 = some ox) : fn_L_save znsto zndro znfou zntold znle znsh znrolls znfrm zntk znsr znse zlk out gs x1 = if ox.1 = 0 then some ((0 : Int32), ox.2.2.1, (vp_updL out 0 ((ox.2.1).toInt64)), ox.2.2.2) else if ox.1 = 3 then some ((1 : Int32), ox.2.2.1, out, ox.2.2.2) else none := by
  unfold fn_L_save
  rw [h, kbs]
theorem gl_save {n t : kSt} {hs gs : Nat → kSt} {len hsz hnx mref msize macts mspot mout : Int32} {sg lk mtext mnow mtrial mdiary mkept misk mside mwas : kF} {out : Nat → Int64} {x1 : Int32} (h : LI n sg len hsz hnx hs lk gs msize macts mtext mnow mdiary mkept misk) : ∃ (o : Int32 × kF × (Nat → Int64) × (Nat → kSt)) (o' : Int32 × Int32 × kF × kF), fn_L_save n.1 n.2.1 n.2.2.1 n.2.2.2.1 n.2.2.2.2.2.2.1 n.2.2.2.2.2.2.2.1 n.2.2.2.2.2.2.2.2.1 n.2.2.2.2.2.2.2.2.2.1 n.2.2.2.2.2.2.2.2.2.2.1 n.2.2.2.2.2.2.2.2.2.2.2.1 n.2.2.2.2.2.2.2.2.2.2.2.2 lk out gs x1 = some o ∧ fn_X8_save mref mnow mkept misk x1 = some o' ∧ o'.2.1 = o.1 ∧ (o.1 = 0 → (o.2.2.1 0) = (o'.1).toInt64) ∧ LI n sg len hsz hnx hs o.2.1 o.2.2.2 msize macts mtext mnow mdiary o'.2.2.1 o'.2.2.2 := by
  obtain ⟨hN, hX, hH, hG⟩ := h
  obtain ⟨_, _, _, _, _, hd⟩ := sim_save (ref := mref) (x1 := x1) hG hN
  rcases hd with ⟨h1, h2⟩ | ⟨h1, h2, hG'⟩
  · have e := lo_save (out := out) h1
    have e := e.trans (if_neg (show ¬ ((3 : Int32) = 0) by decide))
    have e := e.trans (if_pos (show (3 : Int32) = 3 from rfl))
    exact ⟨_, _, e, h2, rfl, (fun c => absurd (show (1 : Int32) = 0 from c) (by decide)), hN, hX, hH, hG⟩
  · have e := lo_save (out := out) h1
    have e := e.trans (if_pos (show (0 : Int32) = 0 from rfl))
    exact ⟨_, _, e, h2, rfl, (fun _ => updL0 (f := out)), hN, hX, hH, hG'⟩
theorem lo_restore {znsto : Int32} {zndro : Int32} {znfou : Int32} {zntold : Int32} {znle : kF} {znsh : kF} {znrolls : Int32} {znfrm : Int32} {zntk : kF} {znsr : kF} {znse : kF} {zhsz : Int32} {zlk : kF} {out : Nat → Int64} {gs : Nat → kSt} {x1 : Int32} {ox : Int32 × Int32 × Int32 × Int32 × Int32 × Int32 × kF × kF × Int32 × Int32 × kF × kF × kF × Int32} (h : fn_X7_restore znsto zndro znfou zntold znle znsh znrolls znfrm zntk znsr znse zhsz zlk gs x1 = some ox) : fn_L_restore znsto zndro znfou zntold znle znsh znrolls znfrm zntk znsr znse zhsz zlk out gs x1 = if ox.1 = 0 then some ((0 : Int32), ox.2.2.1, ox.2.2.2.1, ox.2.2.2.2.1, ox.2.2.2.2.2.1, ox.2.2.2.2.2.2.1, ox.2.2.2.2.2.2.2.1, ox.2.2.2.2.2.2.2.2.1, ox.2.2.2.2.2.2.2.2.2.1, ox.2.2.2.2.2.2.2.2.2.2.1, ox.2.2.2.2.2.2.2.2.2.2.2.1, ox.2.2.2.2.2.2.2.2.2.2.2.2.1, ox.2.2.2.2.2.2.2.2.2.2.2.2.2, (vp_updL out 0 ((ox.2.1).toInt64))) else if ox.1 = 3 then some ((1 : Int32), ox.2.2.1, ox.2.2.2.1, ox.2.2.2.2.1, ox.2.2.2.2.2.1, ox.2.2.2.2.2.2.1, ox.2.2.2.2.2.2.2.1, ox.2.2.2.2.2.2.2.2.1, ox.2.2.2.2.2.2.2.2.2.1, ox.2.2.2.2.2.2.2.2.2.2.1, ox.2.2.2.2.2.2.2.2.2.2.2.1, ox.2.2.2.2.2.2.2.2.2.2.2.2.1, ox.2.2.2.2.2.2.2.2.2.2.2.2.2, out) else if ox.1 = 2 then some ((2 : Int32), ox.2.2.1, ox.2.2.2.1, ox.2.2.2.2.1, ox.2.2.2.2.2.1, ox.2.2.2.2.2.2.1, ox.2.2.2.2.2.2.2.1, ox.2.2.2.2.2.2.2.2.1, ox.2.2.2.2.2.2.2.2.2.1, ox.2.2.2.2.2.2.2.2.2.2.1, ox.2.2.2.2.2.2.2.2.2.2.2.1, ox.2.2.2.2.2.2.2.2.2.2.2.2.1, ox.2.2.2.2.2.2.2.2.2.2.2.2.2, out) else none := by
  unfold fn_L_restore
  rw [h, kbs]
theorem gl_restore {n t : kSt} {hs gs : Nat → kSt} {len hsz hnx mref msize macts mspot mout : Int32} {sg lk mtext mnow mtrial mdiary mkept misk mside mwas : kF} {out : Nat → Int64} {x1 : Int32} (h : LI n sg len hsz hnx hs lk gs msize macts mtext mnow mdiary mkept misk) : ∃ (o : Int32 × Int32 × Int32 × Int32 × Int32 × kF × kF × Int32 × Int32 × kF × kF × kF × Int32 × (Nat → Int64)) (o' : Int32 × Int32 × Int32 × kF), fn_L_restore n.1 n.2.1 n.2.2.1 n.2.2.2.1 n.2.2.2.2.2.2.1 n.2.2.2.2.2.2.2.1 n.2.2.2.2.2.2.2.2.1 n.2.2.2.2.2.2.2.2.2.1 n.2.2.2.2.2.2.2.2.2.2.1 n.2.2.2.2.2.2.2.2.2.2.2.1 n.2.2.2.2.2.2.2.2.2.2.2.2 hsz lk out gs x1 = some o ∧ fn_X8_restore mref macts mnow mkept misk x1 = some o' ∧ o'.2.1 = o.1 ∧ (o.1 = 0 → (o.2.2.2.2.2.2.2.2.2.2.2.2.2 0) = (o'.1).toInt64) ∧ LI (o.2.1, o.2.2.1, o.2.2.2.1, o.2.2.2.2.1, n.2.2.2.2.1, n.2.2.2.2.2.1, o.2.2.2.2.2.1, o.2.2.2.2.2.2.1, o.2.2.2.2.2.2.2.1, o.2.2.2.2.2.2.2.2.1, o.2.2.2.2.2.2.2.2.2.1, o.2.2.2.2.2.2.2.2.2.2.1, o.2.2.2.2.2.2.2.2.2.2.2.1) sg len o.2.2.2.2.2.2.2.2.2.2.2.2.1 hnx hs lk gs msize o'.2.2.1 mtext o'.2.2.2 mdiary mkept misk := by
  obtain ⟨hN, hX, hH, hG⟩ := h
  obtain ⟨_, _, _, _, _, _, _, _, _, _, _, _, _, hd⟩ := sim_restore (ref := mref) (x1 := x1) (hsz := hsz) (macts := macts) (now := mnow) (sto := n.1) (dro := n.2.1) (fou := n.2.2.1) (told := n.2.2.2.1) (rolls := n.2.2.2.2.2.2.2.2.1) (frm := n.2.2.2.2.2.2.2.2.2.1) (le := n.2.2.2.2.2.2.1) (sh := n.2.2.2.2.2.2.2.1) (tk := n.2.2.2.2.2.2.2.2.2.2.1) (sr := n.2.2.2.2.2.2.2.2.2.2.2.1) (se := n.2.2.2.2.2.2.2.2.2.2.2.2) hG
  rcases hd with ⟨h1, h2⟩ | ⟨h1, h2⟩ | ⟨h1, h2, hN'⟩
  · have e := lo_restore (out := out) h1
    have e := e.trans (if_neg (show ¬ ((3 : Int32) = 0) by decide))
    have e := e.trans (if_pos (show (3 : Int32) = 3 from rfl))
    exact ⟨_, _, e, h2, rfl, (fun c => absurd (show (1 : Int32) = 0 from c) (by decide)), hN, hX, hH, hG⟩
  · have e := lo_restore (out := out) h1
    have e := e.trans (if_neg (show ¬ ((2 : Int32) = 0) by decide))
    have e := e.trans (if_neg (show ¬ ((2 : Int32) = 3) by decide))
    have e := e.trans (if_pos (show (2 : Int32) = 2 from rfl))
    exact ⟨_, _, e, h2, rfl, (fun c => absurd (show (2 : Int32) = 0 from c) (by decide)), hN, hX, hH, hG⟩
  · have e := lo_restore (out := out) h1
    have e := e.trans (if_pos (show (0 : Int32) = 0 from rfl))
    exact ⟨_, _, e, h2, rfl, (fun _ => updL0 (f := out)), hN', hX, hH.forget, hG⟩
