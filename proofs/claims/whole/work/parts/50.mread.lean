set_option maxHeartbeats 4000000 in
set_option maxRecDepth 100000 in
theorem c_X1_thrown (l : Launch) (dC : Nat → ClassId) (dI : Nat → Nat → Nat) (g0 b1 b2 b3 b4 b5 b6 b7 b8 : Nat) (e1 e2 e3 e4 e5 e6 e7 e8 : ClassId) (th : Int32) (kd zs od lk : Nat → Int32) (nu : Nat → Int64) (rb rg td : Nat → Int32) (ob co tp : Int32) (sz : Nat) : Met l yX1_thrown wsX1_thrown ({ frames := 0, cells := 0, slots := 0, locals := 0 }) (va_Pc [.ref g0] (hw_pre (dC, dI) vwCl [(e1, .int), (e2, .int), (e3, .int), (e4, .int), (e5, .long), (e6, .boolean), (e7, .int), (e8, .int)] [(g0, .inr (1, [.int th, .ref b1, .ref b2, .ref b3, .ref b4, .ref b5, .ref b6, .ref b7, .ref b8, .int ob, .int co, .int tp])), (b1, .inl (e1, 301, .inl kd)), (b2, .inl (e2, 301, .inl zs)), (b3, .inl (e3, 301, .inl od)), (b4, .inl (e4, 12040, .inl lk)), (b5, .inl (e5, 12040, .inr (.inl nu))), (b6, .inl (e6, 301, .inl rb)), (b7, .inl (e7, 16, .inl rg)), (b8, .inl (e8, 301, .inl td))] sz)) (QcRead (th)) 0 0 (fun _ => False) := by
  refine Met.ofW (cc := cX1_thrown) (maxL := 1) (ret := some .int) (by decide) rfl ?_
  intro p e s m args below meth c s₁ B hml hv
  obtain ⟨hargs, hsz, hP, hK, hD0⟩ := hv
  have hx := B.exec
  have hb := B.bytes
  have hr := B.returns
  have hts : ∀ w ∈ wb, w.before _ s = true := fun w h => atoms_spec (ws := wsX1_thrown) B.pre w (List.mem_cons_of_mem _ h)
  have hown : s.vm.findClass RX1 = some m.cls := findClass_of_methodNamed B.named
  have hlocks := B.notSynchronized
  subst hsz
  have hD := hD0
  generalize hQ9 : MQ below (QcRead (th)) args s 0 0 (fun _ => False) = Q9
  have hl := lv_entry ([.ref g0]) (n := 1) (Nat.le_of_ble_eq_true rfl)
  rw [show entryFrame m args 1 = _ from (congrArg (fun z => entryFrame m z 1) hargs).trans (lg_entry_eq m [.ref g0] 1)]
  generalize (lg_sl ([.ref g0]) ++ List.replicate (1 - (lg_sl ([.ref g0])).length) Slot.unset).toArray = ls at hl ⊢
  have hl : lv_has ls 1 [(0, .ref g0)] := hl
  refine lv_aload_n hx hb dX1_thrown_0 rfl (lv_at hl 0 rfl) ?_
  refine va_get (D := (dC, dI)) (ci := 1) (v := .int th) (C := RX1) (T := TX1) (N := 12) hx hb hts inX1 hown hK hP 0 rfl rfl 0 (by decide) (hts _ bw_fl_X1_36) (fun _ h9 => h9) rfl dX1_thrown_1 ?_
  subst hQ9
  exact W.iret (v := th) hx hb hr (fun t ht hWm => ⟨rfl, ht⟩) (fun q h => nomatch h) dX1_thrown_4

set_option maxHeartbeats 4000000 in
set_option maxRecDepth 100000 in
theorem c1_X1_isRegister (l : Launch) (dC : Nat → ClassId) (dI : Nat → Nat → Nat) (g0 b1 b2 b3 b4 b5 b6 b7 b8 : Nat) (e1 e2 e3 e4 e5 e6 e7 e8 : ClassId) (th : Int32) (kd zs od lk : Nat → Int32) (nu : Nat → Int64) (rb rg td : Nat → Int32) (ob co tp : Int32) (sz : Nat) {r : Int32} (hok : ¬ hp_bad r 16) : Met l yX1_isRegister wsX1_isRegister ({ frames := 0, cells := 0, slots := 0, locals := 0 }) (va_Pc [.ref g0, .int r] (hw_pre (dC, dI) vwCl [(e1, .int), (e2, .int), (e3, .int), (e4, .int), (e5, .long), (e6, .boolean), (e7, .int), (e8, .int)] [(g0, .inr (1, [.int th, .ref b1, .ref b2, .ref b3, .ref b4, .ref b5, .ref b6, .ref b7, .ref b8, .int ob, .int co, .int tp])), (b1, .inl (e1, 301, .inl kd)), (b2, .inl (e2, 301, .inl zs)), (b3, .inl (e3, 301, .inl od)), (b4, .inl (e4, 12040, .inl lk)), (b5, .inl (e5, 12040, .inr (.inl nu))), (b6, .inl (e6, 301, .inl rb)), (b7, .inl (e7, 16, .inl rg)), (b8, .inl (e8, 301, .inl td))] sz)) (QcRead (1)) 0 0 (fun _ => False) := by
  refine Met.ofW (cc := cX1_isRegister) (maxL := 2) (ret := some .boolean) (by decide) rfl ?_
  intro p e s m args below meth c s₁ B hml hv
  obtain ⟨hargs, hsz, hP, hK, hD0⟩ := hv
  have hx := B.exec
  have hb := B.bytes
  have hr := B.returns
  have hts : ∀ w ∈ wb, w.before _ s = true := fun w h => atoms_spec (ws := wsX1_isRegister) B.pre w (List.mem_cons_of_mem _ h)
  have hown : s.vm.findClass RX1 = some m.cls := findClass_of_methodNamed B.named
  have hlocks := B.notSynchronized
  subst hsz
  have hD := hD0
  generalize hQ9 : MQ below (QcRead (1)) args s 0 0 (fun _ => False) = Q9
  have hl := lv_entry ([.ref g0, .int r]) (n := 2) (Nat.le_of_ble_eq_true rfl)
  rw [show entryFrame m args 2 = _ from (congrArg (fun z => entryFrame m z 2) hargs).trans (lg_entry_eq m [.ref g0, .int r] 2)]
  generalize (lg_sl ([.ref g0, .int r]) ++ List.replicate (2 - (lg_sl ([.ref g0, .int r])).length) Slot.unset).toArray = ls at hl ⊢
  have hl : lv_has ls 2 [(0, .ref g0), (1, .int r)] := hl
  refine lv_iload_n hx hb dX1_isRegister_0 rfl (lv_at hl 1 rfl) ?_
  refine lv_if_lt hx hb dX1_isRegister_1 (tgt := 14) (by decide) (fun hc => ?_) (fun hc => ?_)
  · exact absurd (Or.inl hc) hok
  · skip
    refine lv_iload_n hx hb dX1_isRegister_4 rfl (lv_at hl 1 rfl) ?_
    refine lv_bipush (v := 16) hx hb dX1_isRegister_5 (by decide) ?_
    refine lv_icmp_ge hx hb dX1_isRegister_7 (tgt := 14) (by decide) (fun hc => ?_) (fun hc => ?_)
    · exact absurd (Or.inr hc) hok
    · skip
      refine lv_iconst (v := 1) hx hb dX1_isRegister_10 (by decide) ?_
      refine lv_goto hx hb dX1_isRegister_11 (tgt := 15) (by decide) ?_
      subst hQ9
      exact W.zret (v := 1) hx hb hr rfl (fun t ht hWm => ⟨rfl, ht⟩) (fun q h => nomatch h) dX1_isRegister_15

set_option maxHeartbeats 4000000 in
set_option maxRecDepth 100000 in
theorem c0_X1_isRegister (l : Launch) (dC : Nat → ClassId) (dI : Nat → Nat → Nat) (g0 b1 b2 b3 b4 b5 b6 b7 b8 : Nat) (e1 e2 e3 e4 e5 e6 e7 e8 : ClassId) (th : Int32) (kd zs od lk : Nat → Int32) (nu : Nat → Int64) (rb rg td : Nat → Int32) (ob co tp : Int32) (sz : Nat) {r : Int32} (hbad : hp_bad r 16) : Met l yX1_isRegister wsX1_isRegister ({ frames := 0, cells := 0, slots := 0, locals := 0 }) (va_Pc [.ref g0, .int r] (hw_pre (dC, dI) vwCl [(e1, .int), (e2, .int), (e3, .int), (e4, .int), (e5, .long), (e6, .boolean), (e7, .int), (e8, .int)] [(g0, .inr (1, [.int th, .ref b1, .ref b2, .ref b3, .ref b4, .ref b5, .ref b6, .ref b7, .ref b8, .int ob, .int co, .int tp])), (b1, .inl (e1, 301, .inl kd)), (b2, .inl (e2, 301, .inl zs)), (b3, .inl (e3, 301, .inl od)), (b4, .inl (e4, 12040, .inl lk)), (b5, .inl (e5, 12040, .inr (.inl nu))), (b6, .inl (e6, 301, .inl rb)), (b7, .inl (e7, 16, .inl rg)), (b8, .inl (e8, 301, .inl td))] sz)) (QcRead (0)) 0 0 (fun _ => False) := by
  refine Met.ofW (cc := cX1_isRegister) (maxL := 2) (ret := some .boolean) (by decide) rfl ?_
  intro p e s m args below meth c s₁ B hml hv
  obtain ⟨hargs, hsz, hP, hK, hD0⟩ := hv
  have hx := B.exec
  have hb := B.bytes
  have hr := B.returns
  have hts : ∀ w ∈ wb, w.before _ s = true := fun w h => atoms_spec (ws := wsX1_isRegister) B.pre w (List.mem_cons_of_mem _ h)
  have hown : s.vm.findClass RX1 = some m.cls := findClass_of_methodNamed B.named
  have hlocks := B.notSynchronized
  subst hsz
  have hD := hD0
  generalize hQ9 : MQ below (QcRead (0)) args s 0 0 (fun _ => False) = Q9
  have hl := lv_entry ([.ref g0, .int r]) (n := 2) (Nat.le_of_ble_eq_true rfl)
  rw [show entryFrame m args 2 = _ from (congrArg (fun z => entryFrame m z 2) hargs).trans (lg_entry_eq m [.ref g0, .int r] 2)]
  generalize (lg_sl ([.ref g0, .int r]) ++ List.replicate (2 - (lg_sl ([.ref g0, .int r])).length) Slot.unset).toArray = ls at hl ⊢
  have hl : lv_has ls 2 [(0, .ref g0), (1, .int r)] := hl
  refine lv_iload_n hx hb dX1_isRegister_0 rfl (lv_at hl 1 rfl) ?_
  refine lv_if_lt hx hb dX1_isRegister_1 (tgt := 14) (by decide) (fun hc => ?_) (fun hc => ?_)
  · skip
    refine lv_iconst (v := 0) hx hb dX1_isRegister_14 (by decide) ?_
    subst hQ9
    exact W.zret (v := 0) hx hb hr rfl (fun t ht hWm => ⟨rfl, ht⟩) (fun q h => nomatch h) dX1_isRegister_15
  · skip
    refine lv_iload_n hx hb dX1_isRegister_4 rfl (lv_at hl 1 rfl) ?_
    refine lv_bipush (v := 16) hx hb dX1_isRegister_5 (by decide) ?_
    refine lv_icmp_ge hx hb dX1_isRegister_7 (tgt := 14) (by decide) (fun hc => ?_) (fun hc => ?_)
    · skip
      refine lv_iconst (v := 0) hx hb dX1_isRegister_14 (by decide) ?_
      subst hQ9
      exact W.zret (v := 0) hx hb hr rfl (fun t ht hWm => ⟨rfl, ht⟩) (fun q h => nomatch h) dX1_isRegister_15
    · exact absurd (hbad.resolve_left (by assumption)) hc

set_option maxHeartbeats 4000000 in
set_option maxRecDepth 100000 in
theorem c_X1_cellsOf (l : Launch) (dC : Nat → ClassId) (dI : Nat → Nat → Nat) (g0 b1 b2 b3 b4 b5 b6 b7 b8 : Nat) (e1 e2 e3 e4 e5 e6 e7 e8 : ClassId) (th : Int32) (kd zs od lk : Nat → Int32) (nu : Nat → Int64) (rb rg td : Nat → Int32) (ob co tp : Int32) (sz : Nat) (M : hp_S) (hW : hp_W M) (hQ : hp_Q M kd zs od lk nu rg ob co) (o : Nat) (ho : o ∈ hp_L M) : Met l yX1_cellsOf wsX1_cellsOf ({ frames := 0, cells := 0, slots := 0, locals := 0 }) (va_Pc [.ref g0, .int (nI o)] (hw_pre (dC, dI) vwCl [(e1, .int), (e2, .int), (e3, .int), (e4, .int), (e5, .long), (e6, .boolean), (e7, .int), (e8, .int)] [(g0, .inr (1, [.int th, .ref b1, .ref b2, .ref b3, .ref b4, .ref b5, .ref b6, .ref b7, .ref b8, .int ob, .int co, .int tp])), (b1, .inl (e1, 301, .inl kd)), (b2, .inl (e2, 301, .inl zs)), (b3, .inl (e3, 301, .inl od)), (b4, .inl (e4, 12040, .inl lk)), (b5, .inl (e5, 12040, .inr (.inl nu))), (b6, .inl (e6, 301, .inl rb)), (b7, .inl (e7, 16, .inl rg)), (b8, .inl (e8, 301, .inl td))] sz)) (QcRead (nI (1 + hp_z M o))) 0 0 (fun _ => False) := by
  refine Met.ofW (cc := cX1_cellsOf) (maxL := 2) (ret := some .int) (by decide) rfl ?_
  intro p e s m args below meth c s₁ B hml hv
  obtain ⟨hargs, hsz, hP, hK, hD0⟩ := hv
  have hx := B.exec
  have hb := B.bytes
  have hr := B.returns
  have hts : ∀ w ∈ wb, w.before _ s = true := fun w h => atoms_spec (ws := wsX1_cellsOf) B.pre w (List.mem_cons_of_mem _ h)
  have hown : s.vm.findClass RX1 = some m.cls := findClass_of_methodNamed B.named
  have hlocks := B.notSynchronized
  subst hsz
  have hD := hD0
  generalize hQ9 : MQ below (QcRead (nI (1 + hp_z M o))) args s 0 0 (fun _ => False) = Q9
  have hl := lv_entry ([.ref g0, .int (nI o)]) (n := 2) (Nat.le_of_ble_eq_true rfl)
  rw [show entryFrame m args 2 = _ from (congrArg (fun z => entryFrame m z 2) hargs).trans (lg_entry_eq m [.ref g0, .int (nI o)] 2)]
  generalize (lg_sl ([.ref g0, .int (nI o)]) ++ List.replicate (2 - (lg_sl ([.ref g0, .int (nI o)])).length) Slot.unset).toArray = ls at hl ⊢
  have hl : lv_has ls 2 [(0, .ref g0), (1, .int (nI o))] := hl
  have hw := hW.2.1 o ho
  have hq := hQ.2.2.2.2.2 o ho
  refine lv_iconst (v := 1) hx hb dX1_cellsOf_0 (by decide) ?_
  refine lv_aload_n hx hb dX1_cellsOf_1 rfl (lv_at hl 0 rfl) ?_
  refine va_get (D := (dC, dI)) (ci := 1) (v := .ref b1) (C := RX1) (T := TX1) (N := 12) hx hb hts inX1 hown hK hP 0 rfl rfl 1 (by decide) (hts _ bw_fl_X1_7) (fun _ h9 => h9) rfl dX1_cellsOf_2 ?_
  refine lv_iload_n hx hb dX1_cellsOf_5 rfl (lv_at hl 1 rfl) ?_
  refine hw_iald (j := o) hx hb hK hP 1 0 rfl rfl (rfl) (by omega) (by decide) dX1_cellsOf_6 ?_
  refine hw_topi (y := nI (hp_k M o)) (hQ.2.2.2.1 o (by omega)) ?_
  refine lv_iconst (v := 3) hx hb dX1_cellsOf_7 (by decide) ?_
  refine lv_icmp_ne hx hb dX1_cellsOf_8 (tgt := 15) (by decide) (fun hc => ?_) (fun hc => ?_)
  · skip
    refine lv_aload_n hx hb dX1_cellsOf_15 rfl (lv_at hl 0 rfl) ?_
    refine va_get (D := (dC, dI)) (ci := 1) (v := .ref b2) (C := RX1) (T := TX1) (N := 12) hx hb hts inX1 hown hK hP 0 rfl rfl 2 (by decide) (hts _ bw_fl_X1_13) (fun _ h9 => h9) rfl dX1_cellsOf_16 ?_
    refine lv_iload_n hx hb dX1_cellsOf_19 rfl (lv_at hl 1 rfl) ?_
    refine hw_iald (j := o) hx hb hK hP 2 1 rfl rfl (rfl) (by omega) (by decide) dX1_cellsOf_20 ?_
    refine hw_topi (y := nI (hp_z M o)) (hq.1) ?_
    refine lv_iadd hx hb dX1_cellsOf_21 ?_
    refine hw_topi (y := nI (1 + hp_z M o)) (hp_1a _) ?_
    subst hQ9
    exact W.iret (v := nI (1 + hp_z M o)) hx hb hr (fun t ht hWm => ⟨rfl, ht⟩) (fun q h => nomatch h) dX1_cellsOf_22
  · have hk3 : hp_k M o = 3 := (hp_k1 hW ho (n := 3) (by decide)).mp hc
    refine lv_iconst (v := 1) hx hb dX1_cellsOf_11 (by decide) ?_
    refine lv_goto hx hb dX1_cellsOf_12 (tgt := 21) (by decide) ?_
    refine hw_topi (y := nI (hp_z M o)) (by rw [hw.2.2.2.2.2 hk3]; decide) ?_
    refine lv_iadd hx hb dX1_cellsOf_21 ?_
    refine hw_topi (y := nI (1 + hp_z M o)) (hp_1a _) ?_
    subst hQ9
    exact W.iret (v := nI (1 + hp_z M o)) hx hb hr (fun t ht hWm => ⟨rfl, ht⟩) (fun q h => nomatch h) dX1_cellsOf_22

set_option maxHeartbeats 4000000 in
set_option maxRecDepth 100000 in
theorem c_X1_cells (l : Launch) (dC : Nat → ClassId) (dI : Nat → Nat → Nat) (g0 b1 b2 b3 b4 b5 b6 b7 b8 : Nat) (e1 e2 e3 e4 e5 e6 e7 e8 : ClassId) (th : Int32) (kd zs od lk : Nat → Int32) (nu : Nat → Int64) (rb rg td : Nat → Int32) (ob co tp : Int32) (sz : Nat) (M : hp_S) (hW : hp_W M) (hQ : hp_Q M kd zs od lk nu rg ob co) : Met l yX1_cells wsX1_cells ({ frames := 1, cells := 0, slots := 0, locals := 21 }) (va_Pc [.ref g0] (hw_pre (dC, dI) vwCl [(e1, .int), (e2, .int), (e3, .int), (e4, .int), (e5, .long), (e6, .boolean), (e7, .int), (e8, .int)] [(g0, .inr (1, [.int th, .ref b1, .ref b2, .ref b3, .ref b4, .ref b5, .ref b6, .ref b7, .ref b8, .int ob, .int co, .int tp])), (b1, .inl (e1, 301, .inl kd)), (b2, .inl (e2, 301, .inl zs)), (b3, .inl (e3, 301, .inl od)), (b4, .inl (e4, 12040, .inl lk)), (b5, .inl (e5, 12040, .inr (.inl nu))), (b6, .inl (e6, 301, .inl rb)), (b7, .inl (e7, 16, .inl rg)), (b8, .inl (e8, 301, .inl td))] sz)) (QcRead (nI (hp_tk M))) 0 0 (fun _ => False) := by
  refine Met.ofW (cc := cX1_cells) (maxL := 3) (ret := some .int) (by decide) rfl ?_
  intro p e s m args below meth c s₁ B hml hv
  obtain ⟨hargs, hsz, hP, hK, hD0⟩ := hv
  have hx := B.exec
  have hb := B.bytes
  have hr := B.returns
  have hts : ∀ w ∈ wb, w.before _ s = true := fun w h => atoms_spec (ws := wsX1_cells) B.pre w (List.mem_cons_of_mem _ h)
  have hown : s.vm.findClass RX1 = some m.cls := findClass_of_methodNamed B.named
  have hlocks := B.notSynchronized
  subst hsz
  have hD := hD0
  generalize hQ9 : MQ below (QcRead (nI (hp_tk M))) args s 0 0 (fun _ => False) = Q9
  have hl := lv_entry ([.ref g0]) (n := 3) (Nat.le_of_ble_eq_true rfl)
  rw [show entryFrame m args 3 = _ from (congrArg (fun z => entryFrame m z 3) hargs).trans (lg_entry_eq m [.ref g0] 3)]
  generalize (lg_sl ([.ref g0]) ++ List.replicate (3 - (lg_sl ([.ref g0])).length) Slot.unset).toArray = ls at hl ⊢
  have hl : lv_has ls 3 [(0, .ref g0)] := hl
  refine lv_iconst (v := 0) hx hb dX1_cells_0 (by decide) ?_
  refine hw_topi (y := nI (hp_t (hp_z M) [])) (nI_0.symm) ?_
  refine lv_istore_n hx hb dX1_cells_1 rfl hl (by decide) rfl (fun ls hl => ?_)
  have hl : lv_has ls 3 [(1, .int (nI (hp_t (hp_z M) []))), (0, .ref g0)] := hl
  refine lv_iconst (v := 0) hx hb dX1_cells_2 (by decide) ?_
  refine hw_topi (y := nI ([] : List Nat).length) (nI_0.symm) ?_
  refine lv_istore_n hx hb dX1_cells_3 rfl hl (by decide) rfl (fun ls hl => ?_)
  have hl : lv_has ls 3 [(2, .int (nI ([] : List Nat).length)), (1, .int (nI (hp_t (hp_z M) []))), (0, .ref g0)] := hl
  have loop : ∀ (n9 : Nat) (pre : List Nat) (suf : List Nat) (ls : Array Slot), suf.length < n9 → (hp_L M = pre ++ suf) → lv_has ls 3 [(2, .int (nI pre.length)), (1, .int (nI (hp_t (hp_z M) pre))), (0, .ref g0)] → W p l e (headSpec wsX1_cells ({ frames := 1, cells := 0, slots := 0, locals := 21 })).room s m args below meth c s.heap [] 0 0 Q9 (F0 m 4 ls []) := by
    intro n9
    induction n9 with
    | zero => intro pre suf ls hm; exact absurd hm (Nat.not_lt_zero _)
    | succ n9 ih =>
      intro pre suf ls hm hI hl
      refine lv_iload_n hx hb dX1_cells_4 rfl (lv_at hl 0 rfl) ?_
      refine lv_aload_n hx hb dX1_cells_5 rfl (lv_at hl 2 rfl) ?_
      refine va_get (D := (dC, dI)) (ci := 1) (v := .int ob) (C := RX1) (T := TX1) (N := 12) hx hb hts inX1 hown hK hP 0 rfl rfl 9 (by decide) (hts _ bw_fl_X1_40) (fun _ h9 => h9) rfl dX1_cells_6 ?_
      refine lv_icmp_ge hx hb dX1_cells_9 (tgt := 31) (by decide) (fun hc => ?_) (fun hc => ?_)
      · have hlen := congrArg List.length hI
        rw [List.length_append] at hlen
        have hL3 := hp_L_len hW
        rw [hQ.1] at hc
        have hs : suf = [] := List.length_eq_zero_iff.mp (by have h1 := (nI_leI (by omega) (by omega)).mp hc; omega)
        subst hs
        have hpre : hp_L M = pre := by rw [hI, List.append_nil]
        refine lv_iload_n hx hb dX1_cells_31 rfl (lv_at hl 1 rfl) ?_
        refine hw_topi (y := nI (hp_tk M)) (by rw [← hpre]) ?_
        subst hQ9
        exact W.iret (v := nI (hp_tk M)) hx hb hr (fun t ht hWm => ⟨rfl, ht⟩) (fun q h => nomatch h) dX1_cells_32
      · have hlen := congrArg List.length hI
        rw [List.length_append] at hlen
        have hL3 := hp_L_len hW
        rw [hQ.1] at hc
        have hs : 0 < suf.length := Nat.pos_of_ne_zero (fun h9 => hc ((nI_leI (by omega) (by omega)).mpr (by omega)))
        obtain ⟨o, suf2, rfl⟩ : ∃ o suf2, suf = o :: suf2 := by
          cases suf with
          | nil => exact absurd hs (Nat.lt_irrefl _)
          | cons o suf2 => exact ⟨o, suf2, rfl⟩
        have hpo := hp_old_at hW hI
        have ho : o ∈ hp_L M := by rw [hI]; simp
        have hod : od pre.length = nI o := hQ.2.2.2.2.1 _ _ (by rw [hI]; simp)
        have hlt := hp_pl_lt hW ho
        refine lv_iload_n hx hb dX1_cells_12 rfl (lv_at hl 1 rfl) ?_
        refine lv_aload_n hx hb dX1_cells_13 rfl (lv_at hl 2 rfl) ?_
        refine lv_aload_n hx hb dX1_cells_14 rfl (lv_at hl 2 rfl) ?_
        refine va_get (D := (dC, dI)) (ci := 1) (v := .ref b3) (C := RX1) (T := TX1) (N := 12) hx hb hts inX1 hown hK hP 0 rfl rfl 3 (by decide) (hts _ bw_fl_X1_16) (fun _ h9 => h9) rfl dX1_cells_15 ?_
        refine lv_iload_n hx hb dX1_cells_18 rfl (lv_at hl 0 rfl) ?_
        refine hw_iald (j := pre.length) hx hb hK hP 3 2 rfl rfl (rfl) (by omega) (by decide) dX1_cells_19 ?_
        refine hw_topi (y := nI o) (hod) ?_
        refine W.callR (W.runV (As := [.int (nI o)]) (rest := [.int (nI (hp_t (hp_z M) pre))]) ⟨hx, hb, hml, hown, hts⟩ (c_X1_cellsOf l dC dI g0 b1 b2 b3 b4 b5 b6 b7 b8 e1 e2 e3 e4 e5 e6 e7 e8 th kd zs od lk nu rb rg td ob co tp _ M hW hQ o ho) (cwV 1 hts gw_X1_43 rfl rfl rfl ⟨rfl, by decide, by decide, by decide +kernel⟩ ⟨Nat.le_of_ble_eq_true rfl, Nat.le_of_ble_eq_true rfl⟩) ⟨hw_blind, va_recv (q0 := 0) (ci := 1) (q := (RX1, TX1, 12)) hK hP rfl rfl, hw_pay hP hK hD⟩ rfl rfl hl.1 rfl (lv_room (Nat.le_of_ble_eq_true rfl)) dX1_cells_20 ⟨by decide, by decide⟩) ?_
        refine W.eq (g2 := F0 m 23 ls [.int (nI (1 + hp_z M o)), .int (nI (hp_t (hp_z M) pre))]) rfl ?_
        refine lv_iadd hx hb dX1_cells_23 ?_
        refine hw_topi (y := nI (hp_t (hp_z M) (pre ++ [o]))) (by rw [hp_t_snoc]; exact nI_add _ _) ?_
        refine lv_istore_n hx hb dX1_cells_24 rfl hl (by decide) rfl (fun ls hl => ?_)
        have hl : lv_has ls 3 [(1, .int (nI (hp_t (hp_z M) (pre ++ [o])))), (2, .int (nI pre.length)), (0, .ref g0)] := hl
        refine lv_iinc (k := 1) (v := nI (pre ++ [o]).length) hx hb dX1_cells_25 hl rfl (by rw [List.length_append]; exact nI_1 _) (by decide) rfl (fun ls hl => ?_)
        have hl : lv_has ls 3 [(2, .int (nI (pre ++ [o]).length)), (1, .int (nI (hp_t (hp_z M) (pre ++ [o])))), (0, .ref g0)] := hl
        refine lv_goto hx hb dX1_cells_28 (tgt := 4) (by decide) ?_
        exact ih (pre ++ [o]) suf2 ls (by simp only [List.length_cons] at hm; omega) (by rw [hI, List.append_assoc]; rfl) (lv_sub hl [0, 1, 2] rfl)
  exact loop _ ([]) (hp_L M) ls (Nat.lt_succ_self _) (rfl) (lv_sub hl [0, 1, 2] rfl)

set_option maxHeartbeats 4000000 in
set_option maxRecDepth 100000 in
theorem c_X1_placeOf (l : Launch) (dC : Nat → ClassId) (dI : Nat → Nat → Nat) (g0 b1 b2 b3 b4 b5 b6 b7 b8 : Nat) (e1 e2 e3 e4 e5 e6 e7 e8 : ClassId) (th : Int32) (kd zs od lk : Nat → Int32) (nu : Nat → Int64) (rb rg td : Nat → Int32) (ob co tp : Int32) (sz : Nat) (M : hp_S) (hW : hp_W M) (hQ : hp_Q M kd zs od lk nu rg ob co) (x : Nat) (hx9 : x ∈ hp_L M) : Met l yX1_placeOf wsX1_placeOf ({ frames := 1, cells := 0, slots := 0, locals := 21 }) (va_Pc [.ref g0, .int (nI x)] (hw_pre (dC, dI) vwCl [(e1, .int), (e2, .int), (e3, .int), (e4, .int), (e5, .long), (e6, .boolean), (e7, .int), (e8, .int)] [(g0, .inr (1, [.int th, .ref b1, .ref b2, .ref b3, .ref b4, .ref b5, .ref b6, .ref b7, .ref b8, .int ob, .int co, .int tp])), (b1, .inl (e1, 301, .inl kd)), (b2, .inl (e2, 301, .inl zs)), (b3, .inl (e3, 301, .inl od)), (b4, .inl (e4, 12040, .inl lk)), (b5, .inl (e5, 12040, .inr (.inl nu))), (b6, .inl (e6, 301, .inl rb)), (b7, .inl (e7, 16, .inl rg)), (b8, .inl (e8, 301, .inl td))] sz)) (QcRead (nI (hp_pl M x))) 0 0 (fun _ => False) := by
  refine Met.ofW (cc := cX1_placeOf) (maxL := 4) (ret := some .int) (by decide) rfl ?_
  intro p e s m args below meth c s₁ B hml hv
  obtain ⟨hargs, hsz, hP, hK, hD0⟩ := hv
  have hx := B.exec
  have hb := B.bytes
  have hr := B.returns
  have hts : ∀ w ∈ wb, w.before _ s = true := fun w h => atoms_spec (ws := wsX1_placeOf) B.pre w (List.mem_cons_of_mem _ h)
  have hown : s.vm.findClass RX1 = some m.cls := findClass_of_methodNamed B.named
  have hlocks := B.notSynchronized
  subst hsz
  have hD := hD0
  generalize hQ9 : MQ below (QcRead (nI (hp_pl M x))) args s 0 0 (fun _ => False) = Q9
  have hl := lv_entry ([.ref g0, .int (nI x)]) (n := 4) (Nat.le_of_ble_eq_true rfl)
  rw [show entryFrame m args 4 = _ from (congrArg (fun z => entryFrame m z 4) hargs).trans (lg_entry_eq m [.ref g0, .int (nI x)] 4)]
  generalize (lg_sl ([.ref g0, .int (nI x)]) ++ List.replicate (4 - (lg_sl ([.ref g0, .int (nI x)])).length) Slot.unset).toArray = ls at hl ⊢
  have hl : lv_has ls 4 [(0, .ref g0), (1, .int (nI x))] := hl
  refine lv_iconst (v := 0) hx hb dX1_placeOf_0 (by decide) ?_
  refine hw_topi (y := nI (hp_t (hp_z M) [])) (nI_0.symm) ?_
  refine lv_istore_n hx hb dX1_placeOf_1 rfl hl (by decide) rfl (fun ls hl => ?_)
  have hl : lv_has ls 4 [(2, .int (nI (hp_t (hp_z M) []))), (0, .ref g0), (1, .int (nI x))] := hl
  refine lv_iconst (v := 0) hx hb dX1_placeOf_2 (by decide) ?_
  refine hw_topi (y := nI ([] : List Nat).length) (nI_0.symm) ?_
  refine lv_istore_n hx hb dX1_placeOf_3 rfl hl (by decide) rfl (fun ls hl => ?_)
  have hl : lv_has ls 4 [(3, .int (nI ([] : List Nat).length)), (2, .int (nI (hp_t (hp_z M) []))), (0, .ref g0), (1, .int (nI x))] := hl
  have loop : ∀ (n9 : Nat) (pre : List Nat) (suf : List Nat) (ls : Array Slot), suf.length < n9 → (hp_L M = pre ++ suf ∧ x ∈ suf ∧ x ∉ pre) → lv_has ls 4 [(3, .int (nI pre.length)), (2, .int (nI (hp_t (hp_z M) pre))), (0, .ref g0), (1, .int (nI x))] → W p l e (headSpec wsX1_placeOf ({ frames := 1, cells := 0, slots := 0, locals := 21 })).room s m args below meth c s.heap [] 0 0 Q9 (F0 m 4 ls []) := by
    intro n9
    induction n9 with
    | zero => intro pre suf ls hm; exact absurd hm (Nat.not_lt_zero _)
    | succ n9 ih =>
      intro pre suf ls hm hI hl
      have hlen := congrArg List.length hI.1
      rw [List.length_append] at hlen
      have hL3 := hp_L_len hW
      have hs : 0 < suf.length := List.length_pos_of_mem hI.2.1
      obtain ⟨o, suf2, rfl⟩ : ∃ o suf2, suf = o :: suf2 := by
        cases suf with
        | nil => exact absurd hs (Nat.lt_irrefl _)
        | cons o suf2 => exact ⟨o, suf2, rfl⟩
      have hpo := hp_old_at hW hI.1
      have ho : o ∈ hp_L M := by rw [hI.1]; simp
      have hod : od pre.length = nI o := hQ.2.2.2.2.1 _ _ (by rw [hI.1]; simp)
      have hlt := hp_pl_lt hW ho
      have hox := hW.2.1 o ho
      have hxx := hW.2.1 x hx9
      simp only [List.length_cons] at hlen
      refine lv_aload_n hx hb dX1_placeOf_4 rfl (lv_at hl 2 rfl) ?_
      refine va_get (D := (dC, dI)) (ci := 1) (v := .ref b3) (C := RX1) (T := TX1) (N := 12) hx hb hts inX1 hown hK hP 0 rfl rfl 3 (by decide) (hts _ bw_fl_X1_16) (fun _ h9 => h9) rfl dX1_placeOf_5 ?_
      refine lv_iload_n hx hb dX1_placeOf_8 rfl (lv_at hl 0 rfl) ?_
      refine hw_iald (j := pre.length) hx hb hK hP 3 2 rfl rfl (rfl) (by omega) (by decide) dX1_placeOf_9 ?_
      refine hw_topi (y := nI o) (hod) ?_
      refine lv_iload_n hx hb dX1_placeOf_10 rfl (lv_at hl 3 rfl) ?_
      refine lv_icmp_eq hx hb dX1_placeOf_11 (tgt := 33) (by decide) (fun hc => ?_) (fun hc => ?_)
      · have hox2 : o = x := (nI_eq (by omega) (by omega)).mp hc
        subst hox2
        refine lv_iload_n hx hb dX1_placeOf_33 rfl (lv_at hl 1 rfl) ?_
        refine hw_topi (y := nI (hp_pl M o)) (by rw [hpo]) ?_
        subst hQ9
        exact W.iret (v := nI (hp_pl M o)) hx hb hr (fun t ht hWm => ⟨rfl, ht⟩) (fun q h => nomatch h) dX1_placeOf_34
      · have hox2 : o ≠ x := fun h9 => hc (by rw [h9])
        refine lv_iload_n hx hb dX1_placeOf_14 rfl (lv_at hl 1 rfl) ?_
        refine lv_aload_n hx hb dX1_placeOf_15 rfl (lv_at hl 2 rfl) ?_
        refine lv_aload_n hx hb dX1_placeOf_16 rfl (lv_at hl 2 rfl) ?_
        refine va_get (D := (dC, dI)) (ci := 1) (v := .ref b3) (C := RX1) (T := TX1) (N := 12) hx hb hts inX1 hown hK hP 0 rfl rfl 3 (by decide) (hts _ bw_fl_X1_16) (fun _ h9 => h9) rfl dX1_placeOf_17 ?_
        refine lv_iload_n hx hb dX1_placeOf_20 rfl (lv_at hl 0 rfl) ?_
        refine hw_iald (j := pre.length) hx hb hK hP 3 2 rfl rfl (rfl) (by omega) (by decide) dX1_placeOf_21 ?_
        refine hw_topi (y := nI o) (hod) ?_
        refine W.callR (W.runV (As := [.int (nI o)]) (rest := [.int (nI (hp_t (hp_z M) pre))]) ⟨hx, hb, hml, hown, hts⟩ (c_X1_cellsOf l dC dI g0 b1 b2 b3 b4 b5 b6 b7 b8 e1 e2 e3 e4 e5 e6 e7 e8 th kd zs od lk nu rb rg td ob co tp _ M hW hQ o ho) (cwV 1 hts gw_X1_43 rfl rfl rfl ⟨rfl, by decide, by decide, by decide +kernel⟩ ⟨Nat.le_of_ble_eq_true rfl, Nat.le_of_ble_eq_true rfl⟩) ⟨hw_blind, va_recv (q0 := 0) (ci := 1) (q := (RX1, TX1, 12)) hK hP rfl rfl, hw_pay hP hK hD⟩ rfl rfl hl.1 rfl (lv_room (Nat.le_of_ble_eq_true rfl)) dX1_placeOf_22 ⟨by decide, by decide⟩) ?_
        refine W.eq (g2 := F0 m 25 ls [.int (nI (1 + hp_z M o)), .int (nI (hp_t (hp_z M) pre))]) rfl ?_
        refine lv_iadd hx hb dX1_placeOf_25 ?_
        refine hw_topi (y := nI (hp_t (hp_z M) (pre ++ [o]))) (by rw [hp_t_snoc]; exact nI_add _ _) ?_
        refine lv_istore_n hx hb dX1_placeOf_26 rfl hl (by decide) rfl (fun ls hl => ?_)
        have hl : lv_has ls 4 [(2, .int (nI (hp_t (hp_z M) (pre ++ [o])))), (3, .int (nI pre.length)), (0, .ref g0), (1, .int (nI x))] := hl
        refine lv_iinc (k := 1) (v := nI (pre ++ [o]).length) hx hb dX1_placeOf_27 hl rfl (by rw [List.length_append]; exact nI_1 _) (by decide) rfl (fun ls hl => ?_)
        have hl : lv_has ls 4 [(3, .int (nI (pre ++ [o]).length)), (2, .int (nI (hp_t (hp_z M) (pre ++ [o])))), (0, .ref g0), (1, .int (nI x))] := hl
        refine lv_goto hx hb dX1_placeOf_30 (tgt := 4) (by decide) ?_
        exact ih (pre ++ [o]) suf2 ls (by simp only [List.length_cons] at hm; omega) (⟨by rw [hI.1, List.append_assoc]; rfl, (List.mem_cons.mp hI.2.1).resolve_left (fun h9 => hox2 h9.symm), fun h9 => (List.mem_append.mp h9).elim hI.2.2 (fun h8 => hox2 (List.mem_singleton.mp h8).symm)⟩) (lv_sub hl [0, 1, 2, 3] rfl)
  exact loop _ ([]) (hp_L M) ls (Nat.lt_succ_self _) (⟨rfl, hx9, List.not_mem_nil⟩) (lv_sub hl [0, 1, 2, 3] rfl)

set_option maxHeartbeats 4000000 in
set_option maxRecDepth 100000 in
theorem c1_X1_isWrong (l : Launch) (dC : Nat → ClassId) (dI : Nat → Nat → Nat) (g0 b1 b2 b3 b4 b5 b6 b7 b8 : Nat) (e1 e2 e3 e4 e5 e6 e7 e8 : ClassId) (th : Int32) (kd zs od lk : Nat → Int32) (nu : Nat → Int64) (rb rg td : Nat → Int32) (ob co tp : Int32) (sz : Nat) (M : hp_S) (hW : hp_W M) (hQ : hp_Q M kd zs od lk nu rg ob co) (o kk : Nat) (i : Int32) (ho : o ∈ hp_L M) (hk4 : kk < 4) (hwr : ¬ (hp_k M o = kk ∧ ¬ hp_bad i (hp_z M o))) : Met l yX1_isWrong wsX1_isWrong ({ frames := 0, cells := 0, slots := 0, locals := 0 }) (va_Pc [.ref g0, .int (nI o), .int (nI kk), .int i] (hw_pre (dC, dI) vwCl [(e1, .int), (e2, .int), (e3, .int), (e4, .int), (e5, .long), (e6, .boolean), (e7, .int), (e8, .int)] [(g0, .inr (1, [.int th, .ref b1, .ref b2, .ref b3, .ref b4, .ref b5, .ref b6, .ref b7, .ref b8, .int ob, .int co, .int tp])), (b1, .inl (e1, 301, .inl kd)), (b2, .inl (e2, 301, .inl zs)), (b3, .inl (e3, 301, .inl od)), (b4, .inl (e4, 12040, .inl lk)), (b5, .inl (e5, 12040, .inr (.inl nu))), (b6, .inl (e6, 301, .inl rb)), (b7, .inl (e7, 16, .inl rg)), (b8, .inl (e8, 301, .inl td))] sz)) (QcRead (1)) 0 0 (fun _ => False) := by
  refine Met.ofW (cc := cX1_isWrong) (maxL := 4) (ret := some .boolean) (by decide) rfl ?_
  intro p e s m args below meth c s₁ B hml hv
  obtain ⟨hargs, hsz, hP, hK, hD0⟩ := hv
  have hx := B.exec
  have hb := B.bytes
  have hr := B.returns
  have hts : ∀ w ∈ wb, w.before _ s = true := fun w h => atoms_spec (ws := wsX1_isWrong) B.pre w (List.mem_cons_of_mem _ h)
  have hown : s.vm.findClass RX1 = some m.cls := findClass_of_methodNamed B.named
  have hlocks := B.notSynchronized
  subst hsz
  have hD := hD0
  generalize hQ9 : MQ below (QcRead (1)) args s 0 0 (fun _ => False) = Q9
  have hl := lv_entry ([.ref g0, .int (nI o), .int (nI kk), .int i]) (n := 4) (Nat.le_of_ble_eq_true rfl)
  rw [show entryFrame m args 4 = _ from (congrArg (fun z => entryFrame m z 4) hargs).trans (lg_entry_eq m [.ref g0, .int (nI o), .int (nI kk), .int i] 4)]
  generalize (lg_sl ([.ref g0, .int (nI o), .int (nI kk), .int i]) ++ List.replicate (4 - (lg_sl ([.ref g0, .int (nI o), .int (nI kk), .int i])).length) Slot.unset).toArray = ls at hl ⊢
  have hl : lv_has ls 4 [(0, .ref g0), (1, .int (nI o)), (2, .int (nI kk)), (3, .int i)] := hl
  have hw := hW.2.1 o ho
  have hq := hQ.2.2.2.2.2 o ho
  refine lv_aload_n hx hb dX1_isWrong_0 rfl (lv_at hl 0 rfl) ?_
  refine va_get (D := (dC, dI)) (ci := 1) (v := .ref b1) (C := RX1) (T := TX1) (N := 12) hx hb hts inX1 hown hK hP 0 rfl rfl 1 (by decide) (hts _ bw_fl_X1_7) (fun _ h9 => h9) rfl dX1_isWrong_1 ?_
  refine lv_iload_n hx hb dX1_isWrong_4 rfl (lv_at hl 1 rfl) ?_
  refine hw_iald (j := o) hx hb hK hP 1 0 rfl rfl (rfl) (by omega) (by decide) dX1_isWrong_5 ?_
  refine hw_topi (y := nI (hp_k M o)) (hQ.2.2.2.1 o (by omega)) ?_
  refine lv_iload_n hx hb dX1_isWrong_6 rfl (lv_at hl 2 rfl) ?_
  refine lv_icmp_ne hx hb dX1_isWrong_7 (tgt := 24) (by decide) (fun hc => ?_) (fun hc => ?_)
  · skip
    refine lv_iconst (v := 1) hx hb dX1_isWrong_24 (by decide) ?_
    refine lv_goto hx hb dX1_isWrong_25 (tgt := 29) (by decide) ?_
    subst hQ9
    exact W.zret (v := 1) hx hb hr rfl (fun t ht hWm => ⟨rfl, ht⟩) (fun q h => nomatch h) dX1_isWrong_29
  · have hkk := (hp_k1 hW ho hk4).mp hc
    refine lv_iload_n hx hb dX1_isWrong_10 rfl (lv_at hl 3 rfl) ?_
    refine lv_if_lt hx hb dX1_isWrong_11 (tgt := 24) (by decide) (fun hc => ?_) (fun hc => ?_)
    · skip
      refine lv_iconst (v := 1) hx hb dX1_isWrong_24 (by decide) ?_
      refine lv_goto hx hb dX1_isWrong_25 (tgt := 29) (by decide) ?_
      subst hQ9
      exact W.zret (v := 1) hx hb hr rfl (fun t ht hWm => ⟨rfl, ht⟩) (fun q h => nomatch h) dX1_isWrong_29
    · have hi0 := hc
      refine lv_iload_n hx hb dX1_isWrong_14 rfl (lv_at hl 3 rfl) ?_
      refine lv_aload_n hx hb dX1_isWrong_15 rfl (lv_at hl 0 rfl) ?_
      refine va_get (D := (dC, dI)) (ci := 1) (v := .ref b2) (C := RX1) (T := TX1) (N := 12) hx hb hts inX1 hown hK hP 0 rfl rfl 2 (by decide) (hts _ bw_fl_X1_13) (fun _ h9 => h9) rfl dX1_isWrong_16 ?_
      refine lv_iload_n hx hb dX1_isWrong_19 rfl (lv_at hl 1 rfl) ?_
      refine hw_iald (j := o) hx hb hK hP 2 1 rfl rfl (rfl) (by omega) (by decide) dX1_isWrong_20 ?_
      refine hw_topi (y := nI (hp_z M o)) (hq.1) ?_
      refine lv_icmp_lt hx hb dX1_isWrong_21 (tgt := 28) (by decide) (fun hc => ?_) (fun hc => ?_)
      · exact absurd ⟨hkk, fun h9 => h9.elim hi0 (fun h8 => Int32.not_lt.mpr h8 hc)⟩ hwr
      · skip
        refine lv_iconst (v := 1) hx hb dX1_isWrong_24 (by decide) ?_
        refine lv_goto hx hb dX1_isWrong_25 (tgt := 29) (by decide) ?_
        subst hQ9
        exact W.zret (v := 1) hx hb hr rfl (fun t ht hWm => ⟨rfl, ht⟩) (fun q h => nomatch h) dX1_isWrong_29

set_option maxHeartbeats 4000000 in
set_option maxRecDepth 100000 in
theorem c0_X1_isWrong (l : Launch) (dC : Nat → ClassId) (dI : Nat → Nat → Nat) (g0 b1 b2 b3 b4 b5 b6 b7 b8 : Nat) (e1 e2 e3 e4 e5 e6 e7 e8 : ClassId) (th : Int32) (kd zs od lk : Nat → Int32) (nu : Nat → Int64) (rb rg td : Nat → Int32) (ob co tp : Int32) (sz : Nat) (M : hp_S) (hW : hp_W M) (hQ : hp_Q M kd zs od lk nu rg ob co) (o kk : Nat) (i : Int32) (ho : o ∈ hp_L M) (hk4 : kk < 4) (hwr : hp_k M o = kk ∧ ¬ hp_bad i (hp_z M o)) : Met l yX1_isWrong wsX1_isWrong ({ frames := 0, cells := 0, slots := 0, locals := 0 }) (va_Pc [.ref g0, .int (nI o), .int (nI kk), .int i] (hw_pre (dC, dI) vwCl [(e1, .int), (e2, .int), (e3, .int), (e4, .int), (e5, .long), (e6, .boolean), (e7, .int), (e8, .int)] [(g0, .inr (1, [.int th, .ref b1, .ref b2, .ref b3, .ref b4, .ref b5, .ref b6, .ref b7, .ref b8, .int ob, .int co, .int tp])), (b1, .inl (e1, 301, .inl kd)), (b2, .inl (e2, 301, .inl zs)), (b3, .inl (e3, 301, .inl od)), (b4, .inl (e4, 12040, .inl lk)), (b5, .inl (e5, 12040, .inr (.inl nu))), (b6, .inl (e6, 301, .inl rb)), (b7, .inl (e7, 16, .inl rg)), (b8, .inl (e8, 301, .inl td))] sz)) (QcRead (0)) 0 0 (fun _ => False) := by
  refine Met.ofW (cc := cX1_isWrong) (maxL := 4) (ret := some .boolean) (by decide) rfl ?_
  intro p e s m args below meth c s₁ B hml hv
  obtain ⟨hargs, hsz, hP, hK, hD0⟩ := hv
  have hx := B.exec
  have hb := B.bytes
  have hr := B.returns
  have hts : ∀ w ∈ wb, w.before _ s = true := fun w h => atoms_spec (ws := wsX1_isWrong) B.pre w (List.mem_cons_of_mem _ h)
  have hown : s.vm.findClass RX1 = some m.cls := findClass_of_methodNamed B.named
  have hlocks := B.notSynchronized
  subst hsz
  have hD := hD0
  generalize hQ9 : MQ below (QcRead (0)) args s 0 0 (fun _ => False) = Q9
  have hl := lv_entry ([.ref g0, .int (nI o), .int (nI kk), .int i]) (n := 4) (Nat.le_of_ble_eq_true rfl)
  rw [show entryFrame m args 4 = _ from (congrArg (fun z => entryFrame m z 4) hargs).trans (lg_entry_eq m [.ref g0, .int (nI o), .int (nI kk), .int i] 4)]
  generalize (lg_sl ([.ref g0, .int (nI o), .int (nI kk), .int i]) ++ List.replicate (4 - (lg_sl ([.ref g0, .int (nI o), .int (nI kk), .int i])).length) Slot.unset).toArray = ls at hl ⊢
  have hl : lv_has ls 4 [(0, .ref g0), (1, .int (nI o)), (2, .int (nI kk)), (3, .int i)] := hl
  have hw := hW.2.1 o ho
  have hq := hQ.2.2.2.2.2 o ho
  refine lv_aload_n hx hb dX1_isWrong_0 rfl (lv_at hl 0 rfl) ?_
  refine va_get (D := (dC, dI)) (ci := 1) (v := .ref b1) (C := RX1) (T := TX1) (N := 12) hx hb hts inX1 hown hK hP 0 rfl rfl 1 (by decide) (hts _ bw_fl_X1_7) (fun _ h9 => h9) rfl dX1_isWrong_1 ?_
  refine lv_iload_n hx hb dX1_isWrong_4 rfl (lv_at hl 1 rfl) ?_
  refine hw_iald (j := o) hx hb hK hP 1 0 rfl rfl (rfl) (by omega) (by decide) dX1_isWrong_5 ?_
  refine hw_topi (y := nI (hp_k M o)) (hQ.2.2.2.1 o (by omega)) ?_
  refine lv_iload_n hx hb dX1_isWrong_6 rfl (lv_at hl 2 rfl) ?_
  refine lv_icmp_ne hx hb dX1_isWrong_7 (tgt := 24) (by decide) (fun hc => ?_) (fun hc => ?_)
  · exact absurd (by rw [hwr.1]) hc
  · skip
    refine lv_iload_n hx hb dX1_isWrong_10 rfl (lv_at hl 3 rfl) ?_
    refine lv_if_lt hx hb dX1_isWrong_11 (tgt := 24) (by decide) (fun hc => ?_) (fun hc => ?_)
    · exact absurd (Or.inl hc) hwr.2
    · skip
      refine lv_iload_n hx hb dX1_isWrong_14 rfl (lv_at hl 3 rfl) ?_
      refine lv_aload_n hx hb dX1_isWrong_15 rfl (lv_at hl 0 rfl) ?_
      refine va_get (D := (dC, dI)) (ci := 1) (v := .ref b2) (C := RX1) (T := TX1) (N := 12) hx hb hts inX1 hown hK hP 0 rfl rfl 2 (by decide) (hts _ bw_fl_X1_13) (fun _ h9 => h9) rfl dX1_isWrong_16 ?_
      refine lv_iload_n hx hb dX1_isWrong_19 rfl (lv_at hl 1 rfl) ?_
      refine hw_iald (j := o) hx hb hK hP 2 1 rfl rfl (rfl) (by omega) (by decide) dX1_isWrong_20 ?_
      refine hw_topi (y := nI (hp_z M o)) (hq.1) ?_
      refine lv_icmp_lt hx hb dX1_isWrong_21 (tgt := 28) (by decide) (fun hc => ?_) (fun hc => ?_)
      · skip
        refine lv_iconst (v := 0) hx hb dX1_isWrong_28 (by decide) ?_
        subst hQ9
        exact W.zret (v := 0) hx hb hr rfl (fun t ht hWm => ⟨rfl, ht⟩) (fun q h => nomatch h) dX1_isWrong_29
      · exact absurd (Or.inr (Int32.not_lt.mp hc)) hwr.2
