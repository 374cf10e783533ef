set_option maxHeartbeats 4000000 in
set_option maxRecDepth 100000 in
theorem c_X0_kindAt (l : Launch) (dC : Nat → ClassId) (dI : Nat → Nat → Nat) (h0 a1 a2 a3 a4 : Nat) (c1 c2 c3 c4 : ClassId) (ce : Nat → Int64) (rg : Nat → Int32) (tk ob co : Int32) (re : Nat → Int32) (rc : Int32) (np : Nat → Int32) (sz : Nat) {j : Nat} (hj : j < 300) : Met l yX0_kindAt wsX0_kindAt ({ frames := 0, cells := 0, slots := 0, locals := 0 }) (va_Pc [.ref h0, .int (nI j)] (hw_pre (dC, dI) vwCl [(c1, .long), (c2, .int), (c3, .int), (c4, .int)] [(h0, .inr (0, [.ref a1, .ref a2, .int tk, .int ob, .int co, .ref a3, .int rc, .ref a4])), (a1, .inl (c1, 300, .inr (.inl ce))), (a2, .inl (c2, 16, .inl rg)), (a3, .inl (c3, 300, .inl re)), (a4, .inl (c4, 300, .inl np))] sz)) (QcRead ((ce j).toInt32 &&& 3)) 0 0 (fun _ => False) := by
  refine Met.ofW (cc := cX0_kindAt) (maxL := 2) (ret := some .int) (by decide) rfl ?_
  intro p e s m args below meth c s₁ B hml hv
  obtain ⟨rfl, hsz, hP, hK, hD0⟩ := hv
  have hx := B.exec
  have hb := B.bytes
  have hr := B.returns
  have hts : ∀ w ∈ wb, w.before _ s = true := fun w h => atoms_spec (ws := wsX0_kindAt) B.pre w (List.mem_cons_of_mem _ h)
  have hown : s.vm.findClass RX0 = some m.cls := findClass_of_methodNamed B.named
  have hlocks := B.notSynchronized
  subst hsz
  have hD := hD0
  have hl := lv_entry ([.ref h0, .int (nI j)]) (n := 2) (Nat.le_of_ble_eq_true rfl)
  rw [lg_entry_eq]
  generalize (lg_sl ([.ref h0, .int (nI j)]) ++ List.replicate (2 - (lg_sl ([.ref h0, .int (nI j)])).length) Slot.unset).toArray = ls at hl ⊢
  have hl : lv_has ls 2 [(0, .ref h0), (1, .int (nI j))] := hl
  refine lv_aload_n hx hb dX0_kindAt_0 rfl (lv_at hl 0 rfl) ?_
  refine va_get (D := (dC, dI)) (ci := 0) (v := .ref a1) (C := RX0) (T := TX0) (N := 8) hx hb hts inX0 hown hK hP 0 rfl rfl 0 (by decide) (hts _ bw_fl_X0_9) (fun _ h9 => h9) rfl dX0_kindAt_1 ?_
  refine lv_iload_n hx hb dX0_kindAt_4 rfl (lv_at hl 1 rfl) ?_
  refine hw_lald (j := j) hx hb hK hP 1 0 rfl rfl (rfl) (hj) (by decide) dX0_kindAt_5 ?_
  refine lv_l2i hx hb dX0_kindAt_6 rfl ?_
  refine lv_iconst (v := 3) hx hb dX0_kindAt_7 (by decide) ?_
  refine lv_iand hx hb dX0_kindAt_8 ?_
  exact W.iret (v := (((ce j).toInt32) &&& 3)) hx hb hr (fun t ht hW => ⟨rfl, ht⟩) (fun q h => nomatch h) dX0_kindAt_9

set_option maxHeartbeats 4000000 in
set_option maxRecDepth 100000 in
theorem c_X0_lengthAt (l : Launch) (dC : Nat → ClassId) (dI : Nat → Nat → Nat) (h0 a1 a2 a3 a4 : Nat) (c1 c2 c3 c4 : ClassId) (ce : Nat → Int64) (rg : Nat → Int32) (tk ob co : Int32) (re : Nat → Int32) (rc : Int32) (np : Nat → Int32) (sz : Nat) {j : Nat} (hj : j < 300) : Met l yX0_lengthAt wsX0_lengthAt ({ frames := 0, cells := 0, slots := 0, locals := 0 }) (va_Pc [.ref h0, .int (nI j)] (hw_pre (dC, dI) vwCl [(c1, .long), (c2, .int), (c3, .int), (c4, .int)] [(h0, .inr (0, [.ref a1, .ref a2, .int tk, .int ob, .int co, .ref a3, .int rc, .ref a4])), (a1, .inl (c1, 300, .inr (.inl ce))), (a2, .inl (c2, 16, .inl rg)), (a3, .inl (c3, 300, .inl re)), (a4, .inl (c4, 300, .inl np))] sz)) (QcRead ((ce j).toInt32 >>> ((2 : Int32) &&& 31))) 0 0 (fun _ => False) := by
  refine Met.ofW (cc := cX0_lengthAt) (maxL := 2) (ret := some .int) (by decide) rfl ?_
  intro p e s m args below meth c s₁ B hml hv
  obtain ⟨rfl, hsz, hP, hK, hD0⟩ := hv
  have hx := B.exec
  have hb := B.bytes
  have hr := B.returns
  have hts : ∀ w ∈ wb, w.before _ s = true := fun w h => atoms_spec (ws := wsX0_lengthAt) B.pre w (List.mem_cons_of_mem _ h)
  have hown : s.vm.findClass RX0 = some m.cls := findClass_of_methodNamed B.named
  have hlocks := B.notSynchronized
  subst hsz
  have hD := hD0
  have hl := lv_entry ([.ref h0, .int (nI j)]) (n := 2) (Nat.le_of_ble_eq_true rfl)
  rw [lg_entry_eq]
  generalize (lg_sl ([.ref h0, .int (nI j)]) ++ List.replicate (2 - (lg_sl ([.ref h0, .int (nI j)])).length) Slot.unset).toArray = ls at hl ⊢
  have hl : lv_has ls 2 [(0, .ref h0), (1, .int (nI j))] := hl
  refine lv_aload_n hx hb dX0_lengthAt_0 rfl (lv_at hl 0 rfl) ?_
  refine va_get (D := (dC, dI)) (ci := 0) (v := .ref a1) (C := RX0) (T := TX0) (N := 8) hx hb hts inX0 hown hK hP 0 rfl rfl 0 (by decide) (hts _ bw_fl_X0_9) (fun _ h9 => h9) rfl dX0_lengthAt_1 ?_
  refine lv_iload_n hx hb dX0_lengthAt_4 rfl (lv_at hl 1 rfl) ?_
  refine hw_lald (j := j) hx hb hK hP 1 0 rfl rfl (rfl) (hj) (by decide) dX0_lengthAt_5 ?_
  refine lv_l2i hx hb dX0_lengthAt_6 rfl ?_
  refine lv_iconst (v := 2) hx hb dX0_lengthAt_7 (by decide) ?_
  refine lv_ishr hx hb dX0_lengthAt_8 ?_
  exact W.iret (v := (((ce j).toInt32) >>> (2 &&& 31))) hx hb hr (fun t ht hW => ⟨rfl, ht⟩) (fun q h => nomatch h) dX0_lengthAt_9

set_option maxHeartbeats 4000000 in
set_option maxRecDepth 100000 in
theorem c_X0_sizeAt (l : Launch) (dC : Nat → ClassId) (dI : Nat → Nat → Nat) (h0 a1 a2 a3 a4 : Nat) (c1 c2 c3 c4 : ClassId) (ce : Nat → Int64) (rg : Nat → Int32) (tk ob co : Int32) (re : Nat → Int32) (rc : Int32) (np : Nat → Int32) (sz : Nat) {j : Nat} (hj : j < 300) : Met l yX0_sizeAt wsX0_sizeAt ({ frames := 1, cells := 0, slots := 0, locals := 21 }) (va_Pc [.ref h0, .int (nI j)] (hw_pre (dC, dI) vwCl [(c1, .long), (c2, .int), (c3, .int), (c4, .int)] [(h0, .inr (0, [.ref a1, .ref a2, .int tk, .int ob, .int co, .ref a3, .int rc, .ref a4])), (a1, .inl (c1, 300, .inr (.inl ce))), (a2, .inl (c2, 16, .inl rg)), (a3, .inl (c3, 300, .inl re)), (a4, .inl (c4, 300, .inl np))] sz)) (QcRead (1 + (ce j).toInt32 >>> ((2 : Int32) &&& 31))) 0 0 (fun _ => False) := by
  refine Met.ofW (cc := cX0_sizeAt) (maxL := 2) (ret := some .int) (by decide) rfl ?_
  intro p e s m args below meth c s₁ B hml hv
  obtain ⟨rfl, hsz, hP, hK, hD0⟩ := hv
  have hx := B.exec
  have hb := B.bytes
  have hr := B.returns
  have hts : ∀ w ∈ wb, w.before _ s = true := fun w h => atoms_spec (ws := wsX0_sizeAt) B.pre w (List.mem_cons_of_mem _ h)
  have hown : s.vm.findClass RX0 = some m.cls := findClass_of_methodNamed B.named
  have hlocks := B.notSynchronized
  subst hsz
  have hD := hD0
  have hl := lv_entry ([.ref h0, .int (nI j)]) (n := 2) (Nat.le_of_ble_eq_true rfl)
  rw [lg_entry_eq]
  generalize (lg_sl ([.ref h0, .int (nI j)]) ++ List.replicate (2 - (lg_sl ([.ref h0, .int (nI j)])).length) Slot.unset).toArray = ls at hl ⊢
  have hl : lv_has ls 2 [(0, .ref h0), (1, .int (nI j))] := hl
  refine lv_iconst (v := 1) hx hb dX0_sizeAt_0 (by decide) ?_
  refine lv_aload_n hx hb dX0_sizeAt_1 rfl (lv_at hl 0 rfl) ?_
  refine lv_iload_n hx hb dX0_sizeAt_2 rfl (lv_at hl 1 rfl) ?_
  refine W.callR (W.runV (As := [.int (nI j)]) (rest := [.int 1]) ⟨hx, hb, hml, hown, hts⟩ (c_X0_lengthAt l dC dI h0 a1 a2 a3 a4 c1 c2 c3 c4 ce rg tk ob co re rc np _ hj) (cwV 1 hts gw_X0_67 rfl rfl rfl ⟨rfl, by decide, by decide, by decide +kernel⟩ ⟨Nat.le_of_ble_eq_true rfl, Nat.le_of_ble_eq_true rfl⟩) ⟨hw_blind, va_recv (q0 := 0) (ci := 0) (q := (RX0, TX0, 8)) hK hP rfl rfl, hw_pay hP hK hD⟩ rfl rfl hl.1 rfl (lv_room (Nat.le_of_ble_eq_true rfl)) dX0_sizeAt_3 ⟨by decide, by decide⟩) ?_
  refine lv_iadd hx hb dX0_sizeAt_6 ?_
  exact W.iret (v := (1 + ((ce j).toInt32 >>> ((2 : Int32) &&& 31)))) hx hb hr (fun t ht hW => ⟨rfl, ht⟩) (fun q h => nomatch h) dX0_sizeAt_7

set_option maxHeartbeats 4000000 in
set_option maxRecDepth 100000 in
theorem c_X0_hasRoom (l : Launch) (dC : Nat → ClassId) (dI : Nat → Nat → Nat) (h0 a1 a2 a3 a4 : Nat) (c1 c2 c3 c4 : ClassId) (ce : Nat → Int64) (rg : Nat → Int32) (tk ob co : Int32) (re : Nat → Int32) (rc : Int32) (np : Nat → Int32) (sz : Nat) (n : Int32) : Met l yX0_hasRoom wsX0_hasRoom ({ frames := 0, cells := 0, slots := 0, locals := 0 }) (va_Pc [.ref h0, .int n] (hw_pre (dC, dI) vwCl [(c1, .long), (c2, .int), (c3, .int), (c4, .int)] [(h0, .inr (0, [.ref a1, .ref a2, .int tk, .int ob, .int co, .ref a3, .int rc, .ref a4])), (a1, .inl (c1, 300, .inr (.inl ce))), (a2, .inl (c2, 16, .inl rg)), (a3, .inl (c3, 300, .inl re)), (a4, .inl (c4, 300, .inl np))] sz)) (QcRead (if tk + 1 + n ≤ 300 then 1 else 0)) 0 0 (fun _ => False) := by
  refine Met.ofW (cc := cX0_hasRoom) (maxL := 2) (ret := some .boolean) (by decide) rfl ?_
  intro p e s m args below meth c s₁ B hml hv
  obtain ⟨rfl, hsz, hP, hK, hD0⟩ := hv
  have hx := B.exec
  have hb := B.bytes
  have hr := B.returns
  have hts : ∀ w ∈ wb, w.before _ s = true := fun w h => atoms_spec (ws := wsX0_hasRoom) B.pre w (List.mem_cons_of_mem _ h)
  have hown : s.vm.findClass RX0 = some m.cls := findClass_of_methodNamed B.named
  have hlocks := B.notSynchronized
  subst hsz
  have hD := hD0
  have hl := lv_entry ([.ref h0, .int n]) (n := 2) (Nat.le_of_ble_eq_true rfl)
  rw [lg_entry_eq]
  generalize (lg_sl ([.ref h0, .int n]) ++ List.replicate (2 - (lg_sl ([.ref h0, .int n])).length) Slot.unset).toArray = ls at hl ⊢
  have hl : lv_has ls 2 [(0, .ref h0), (1, .int n)] := hl
  refine lv_aload_n hx hb dX0_hasRoom_0 rfl (lv_at hl 0 rfl) ?_
  refine va_get (D := (dC, dI)) (ci := 0) (v := .int tk) (C := RX0) (T := TX0) (N := 8) hx hb hts inX0 hown hK hP 0 rfl rfl 2 (by decide) (hts _ bw_fl_X0_17) (fun _ h9 => h9) rfl dX0_hasRoom_1 ?_
  refine lv_iconst (v := 1) hx hb dX0_hasRoom_4 (by decide) ?_
  refine lv_iadd hx hb dX0_hasRoom_5 ?_
  refine lv_iload_n hx hb dX0_hasRoom_6 rfl (lv_at hl 1 rfl) ?_
  refine lv_iadd hx hb dX0_hasRoom_7 ?_
  refine lv_sipush (v := 300) hx hb dX0_hasRoom_8 (by decide) ?_
  refine lv_icmp_gt hx hb dX0_hasRoom_11 (tgt := 18) (by decide) (fun hc => ?_) (fun hc => ?_)
  · have hc2 : ¬ tk + 1 + n ≤ 300 := fun h9 => Int32.not_lt.mpr h9 hc
    refine lv_iconst (v := 0) hx hb dX0_hasRoom_18 (by decide) ?_
    exact W.zret (v := 0) hx hb hr rfl (fun t ht hW => ⟨by rw [if_neg hc2], ht⟩) (fun q h => nomatch h) dX0_hasRoom_19
  · have hc2 : tk + 1 + n ≤ 300 := Int32.not_lt.mp hc
    refine lv_iconst (v := 1) hx hb dX0_hasRoom_14 (by decide) ?_
    refine lv_goto hx hb dX0_hasRoom_15 (tgt := 19) (by decide) ?_
    exact W.zret (v := 1) hx hb hr rfl (fun t ht hW => ⟨by rw [if_pos hc2], ht⟩) (fun q h => nomatch h) dX0_hasRoom_19

set_option maxHeartbeats 4000000 in
set_option maxRecDepth 100000 in
theorem c_X0_newPlaceOf (l : Launch) (dC : Nat → ClassId) (dI : Nat → Nat → Nat) (h0 a1 a2 a3 a4 : Nat) (c1 c2 c3 c4 : ClassId) (ce : Nat → Int64) (rg : Nat → Int32) (tk ob co : Int32) (re : Nat → Int32) (rc : Int32) (np : Nat → Int32) (sz : Nat) {x : Int32} (hx1 : x = -1 ∨ ∃ j : Nat, j < 300 ∧ x = nI j) : Met l yX0_newPlaceOf wsX0_newPlaceOf ({ frames := 0, cells := 0, slots := 0, locals := 0 }) (va_Pc [.ref h0, .int x] (hw_pre (dC, dI) vwCl [(c1, .long), (c2, .int), (c3, .int), (c4, .int)] [(h0, .inr (0, [.ref a1, .ref a2, .int tk, .int ob, .int co, .ref a3, .int rc, .ref a4])), (a1, .inl (c1, 300, .inr (.inl ce))), (a2, .inl (c2, 16, .inl rg)), (a3, .inl (c3, 300, .inl re)), (a4, .inl (c4, 300, .inl np))] sz)) (QcRead (hp_nw np x)) 0 0 (fun _ => False) := by
  refine Met.ofW (cc := cX0_newPlaceOf) (maxL := 2) (ret := some .int) (by decide) rfl ?_
  intro p e s m args below meth c s₁ B hml hv
  obtain ⟨rfl, hsz, hP, hK, hD0⟩ := hv
  have hx := B.exec
  have hb := B.bytes
  have hr := B.returns
  have hts : ∀ w ∈ wb, w.before _ s = true := fun w h => atoms_spec (ws := wsX0_newPlaceOf) B.pre w (List.mem_cons_of_mem _ h)
  have hown : s.vm.findClass RX0 = some m.cls := findClass_of_methodNamed B.named
  have hlocks := B.notSynchronized
  subst hsz
  have hD := hD0
  have hl := lv_entry ([.ref h0, .int x]) (n := 2) (Nat.le_of_ble_eq_true rfl)
  rw [lg_entry_eq]
  generalize (lg_sl ([.ref h0, .int x]) ++ List.replicate (2 - (lg_sl ([.ref h0, .int x])).length) Slot.unset).toArray = ls at hl ⊢
  have hl : lv_has ls 2 [(0, .ref h0), (1, .int x)] := hl
  refine lv_iload_n hx hb dX0_newPlaceOf_0 rfl (lv_at hl 1 rfl) ?_
  refine lv_iconst (v := (-1)) hx hb dX0_newPlaceOf_1 (by decide) ?_
  refine lv_icmp_ne hx hb dX0_newPlaceOf_2 (tgt := 9) (by decide) (fun hc => ?_) (fun hc => ?_)
  · obtain ⟨j, hj, rfl⟩ := hx1.resolve_left hc
    refine lv_aload_n hx hb dX0_newPlaceOf_9 rfl (lv_at hl 0 rfl) ?_
    refine va_get (D := (dC, dI)) (ci := 0) (v := .ref a4) (C := RX0) (T := TX0) (N := 8) hx hb hts inX0 hown hK hP 0 rfl rfl 7 (by decide) (hts _ bw_fl_X0_33) (fun _ h9 => h9) rfl dX0_newPlaceOf_10 ?_
    refine lv_iload_n hx hb dX0_newPlaceOf_13 rfl (lv_at hl 1 rfl) ?_
    refine hw_iald (j := j) hx hb hK hP 4 3 rfl rfl (rfl) (hj) (by decide) dX0_newPlaceOf_14 ?_
    exact W.iret (v := (np j)) hx hb hr (fun t ht hW => ⟨by unfold hp_nw; rw [if_neg hc, nI_clamp (by omega)], ht⟩) (fun q h => nomatch h) dX0_newPlaceOf_15
  · skip
    refine lv_iconst (v := (-1)) hx hb dX0_newPlaceOf_5 (by decide) ?_
    refine lv_goto hx hb dX0_newPlaceOf_6 (tgt := 15) (by decide) ?_
    exact W.iret (v := (-1)) hx hb hr (fun t ht hW => ⟨by unfold hp_nw; rw [if_pos hc], ht⟩) (fun q h => nomatch h) dX0_newPlaceOf_15
