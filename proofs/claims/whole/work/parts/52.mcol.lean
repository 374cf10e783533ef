set_option maxHeartbeats 4000000 in
set_option maxRecDepth 100000 in
theorem c_X1_reach (l : Launch) (dC : Nat → ClassId) (dI : Nat → Nat → Nat) (g0 b1 b2 b3 b4 b5 b6 b7 b8 : Nat) (e1 e2 e3 e4 e5 e6 e7 e8 : ClassId) (th : Int32) (kd zs od lk : Nat → Int32) (nu : Nat → Int64) (rb rg td : Nat → Int32) (ob co tp : Int32) (sz : Nat) (M : hp_S) (hW : hp_W M) (S T : List Nat) (hI : hp_K M S T rb td tp) (o : Nat) (ho : o = 0 ∨ o ∈ hp_L M) : Met l yX1_reach wsX1_reach ({ frames := 0, cells := 0, slots := 0, locals := 0 }) (va_Pc [.ref g0, .int (nI o)] (hw_pre (dC, dI) vwCl [(e1, .int), (e2, .int), (e3, .int), (e4, .int), (e5, .long), (e6, .boolean), (e7, .int), (e8, .int)] [(g0, .inr (1, [.int th, .ref b1, .ref b2, .ref b3, .ref b4, .ref b5, .ref b6, .ref b7, .ref b8, .int ob, .int co, .int tp])), (b1, .inl (e1, 301, .inl kd)), (b2, .inl (e2, 301, .inl zs)), (b3, .inl (e3, 301, .inl od)), (b4, .inl (e4, 12040, .inl lk)), (b5, .inl (e5, 12040, .inr (.inl nu))), (b6, .inl (e6, 301, .inl rb)), (b7, .inl (e7, 16, .inl rg)), (b8, .inl (e8, 301, .inl td))] sz)) (va_Qv (fun u : (Nat → Int32) × (Nat → Int32) × Int32 => hp_K M (hp_nt S o) (hp_tt S T o) u.1 u.2.1 u.2.2) (fun u t => hw_B (dC, dI) vwCl [(e1, .int), (e2, .int), (e3, .int), (e4, .int), (e5, .long), (e6, .boolean), (e7, .int), (e8, .int)] (va_A [(g0, .inr (1, [.int th, .ref b1, .ref b2, .ref b3, .ref b4, .ref b5, .ref b6, .ref b7, .ref b8, .int ob, .int co, .int tp])), (b1, .inl (e1, 301, .inl kd)), (b2, .inl (e2, 301, .inl zs)), (b3, .inl (e3, 301, .inl od)), (b4, .inl (e4, 12040, .inl lk)), (b5, .inl (e5, 12040, .inr (.inl nu))), (b6, .inl (e6, 301, .inl rb)), (b7, .inl (e7, 16, .inl rg)), (b8, .inl (e8, 301, .inl td))] sz) ((fun u : (Nat → Int32) × (Nat → Int32) × Int32 => [(g0, .inr (1, [.int th, .ref b1, .ref b2, .ref b3, .ref b4, .ref b5, .ref b6, .ref b7, .ref b8, .int ob, .int co, .int u.2.2])), (b1, .inl (e1, 301, .inl kd)), (b2, .inl (e2, 301, .inl zs)), (b3, .inl (e3, 301, .inl od)), (b4, .inl (e4, 12040, .inl lk)), (b5, .inl (e5, 12040, .inr (.inl nu))), (b6, .inl (e6, 301, .inl u.1)), (b7, .inl (e7, 16, .inl rg)), (b8, .inl (e8, 301, .inl u.2.1))]) u) t) (va_A [(g0, .inr (1, [.int th, .ref b1, .ref b2, .ref b3, .ref b4, .ref b5, .ref b6, .ref b7, .ref b8, .int ob, .int co, .int tp])), (b1, .inl (e1, 301, .inl kd)), (b2, .inl (e2, 301, .inl zs)), (b3, .inl (e3, 301, .inl od)), (b4, .inl (e4, 12040, .inl lk)), (b5, .inl (e5, 12040, .inr (.inl nu))), (b6, .inl (e6, 301, .inl rb)), (b7, .inl (e7, 16, .inl rg)), (b8, .inl (e8, 301, .inl td))] sz)) 0 0 (va_A [(g0, .inr (1, [.int th, .ref b1, .ref b2, .ref b3, .ref b4, .ref b5, .ref b6, .ref b7, .ref b8, .int ob, .int co, .int tp])), (b1, .inl (e1, 301, .inl kd)), (b2, .inl (e2, 301, .inl zs)), (b3, .inl (e3, 301, .inl od)), (b4, .inl (e4, 12040, .inl lk)), (b5, .inl (e5, 12040, .inr (.inl nu))), (b6, .inl (e6, 301, .inl rb)), (b7, .inl (e7, 16, .inl rg)), (b8, .inl (e8, 301, .inl td))] sz) := by
  refine Met.ofW (cc := cX1_reach) (maxL := 2) (ret := none) (by decide) rfl ?_
  intro p e s m args below meth c s₁ B hml hv
  obtain ⟨hargs, hsz, hP, hK, hD0⟩ := hv
  have hx := B.exec
  have hb := B.bytes
  have hr := B.returns
  have hts : ∀ w ∈ wb, w.before _ s = true := fun w h => atoms_spec (ws := wsX1_reach) B.pre w (List.mem_cons_of_mem _ h)
  have hown : s.vm.findClass RX1 = some m.cls := findClass_of_methodNamed B.named
  have hlocks := B.notSynchronized
  subst hsz
  have hD := hD0.self (sz := s.heap.size)
  generalize hAe : va_A [(g0, .inr (1, [.int th, .ref b1, .ref b2, .ref b3, .ref b4, .ref b5, .ref b6, .ref b7, .ref b8, .int ob, .int co, .int tp])), (b1, .inl (e1, 301, .inl kd)), (b2, .inl (e2, 301, .inl zs)), (b3, .inl (e3, 301, .inl od)), (b4, .inl (e4, 12040, .inl lk)), (b5, .inl (e5, 12040, .inr (.inl nu))), (b6, .inl (e6, 301, .inl rb)), (b7, .inl (e7, 16, .inl rg)), (b8, .inl (e8, 301, .inl td))] s.heap.size = A at hD ⊢
  have hA : ∀ q : Nat, s.heap.size ≤ q → A q := fun q h => by rw [← hAe]; exact Or.inr h
  have hS : va_S A s.heap s.heap [] := va_S.rf
  generalize hQ9 : MQ below (va_Qv (fun u : (Nat → Int32) × (Nat → Int32) × Int32 => hp_K M (hp_nt S o) (hp_tt S T o) u.1 u.2.1 u.2.2) (fun u t => hw_B (dC, dI) vwCl [(e1, .int), (e2, .int), (e3, .int), (e4, .int), (e5, .long), (e6, .boolean), (e7, .int), (e8, .int)] A ((fun u : (Nat → Int32) × (Nat → Int32) × Int32 => [(g0, .inr (1, [.int th, .ref b1, .ref b2, .ref b3, .ref b4, .ref b5, .ref b6, .ref b7, .ref b8, .int ob, .int co, .int u.2.2])), (b1, .inl (e1, 301, .inl kd)), (b2, .inl (e2, 301, .inl zs)), (b3, .inl (e3, 301, .inl od)), (b4, .inl (e4, 12040, .inl lk)), (b5, .inl (e5, 12040, .inr (.inl nu))), (b6, .inl (e6, 301, .inl u.1)), (b7, .inl (e7, 16, .inl rg)), (b8, .inl (e8, 301, .inl u.2.1))]) u) t) A) args s 0 0 A = Q9
  have hl := lv_entry ([.ref g0, .int (nI o)]) (n := 2) (Nat.le_of_ble_eq_true rfl)
  rw [show entryFrame m args 2 = _ from (congrArg (fun z => entryFrame m z 2) hargs).trans (lg_entry_eq m [.ref g0, .int (nI o)] 2)]
  generalize (lg_sl ([.ref g0, .int (nI o)]) ++ List.replicate (2 - (lg_sl ([.ref g0, .int (nI o)])).length) Slot.unset).toArray = ls at hl ⊢
  have hl : lv_has ls 2 [(0, .ref g0), (1, .int (nI o))] := hl
  obtain ⟨H, hH⟩ : ∃ H, H = s.heap := ⟨_, rfl⟩
  rw [← hH] at hP
  have hS : va_S A s.heap H [] := by rw [hH]; exact hS
  rw [← hH]
  generalize ([] : List Loc) = locs at hS ⊢
  have hlen := hp_K_len hW hI
  have ho3 : o ≤ 300 := ho.elim (fun h9 => by omega) (fun h9 => (hW.2.1 o h9).2.1)
  refine lv_iload_n hx hb dX1_reach_0 rfl (lv_at hl 1 rfl) ?_
  refine lv_if_eq hx hb dX1_reach_1 (tgt := 13) (by decide) (fun hc => ?_) (fun hc => ?_)
  · have hc2 : o = 0 ∨ o ∈ S := Or.inl ((nI_eq (b := 0) (by omega) (by decide)).mp (hc.trans nI_0.symm))
    subst hQ9
    exact W.vret hx hb hr (fun t ht hWm => ⟨⟨(rb, td, tp), rfl, by rw [hp_nt_y hc2, hp_tt_y hc2]; exact hI, by rw [ht]; exact hP, va_K.moved hWm.alike hK, hD⟩, hS.F ht⟩) hS.2.2 dX1_reach_13
  · have h00 : o ≠ 0 := fun h9 => hc (by rw [h9]; exact nI_0)
    have hoL := ho.resolve_left h00
    refine lv_aload_n hx hb dX1_reach_4 rfl (lv_at hl 0 rfl) ?_
    refine va_get (D := (dC, dI)) (ci := 1) (v := .ref b6) (C := RX1) (T := TX1) (N := 12) hx hb hts inX1 hown hK hP 0 rfl rfl 6 (by decide) (hts _ bw_fl_X1_26) (fun _ h9 => h9) rfl dX1_reach_5 ?_
    refine lv_iload_n hx hb dX1_reach_8 rfl (lv_at hl 1 rfl) ?_
    refine hw_zald (j := o) hx hb hK hP 6 5 rfl rfl (rfl) (by omega) (by decide) dX1_reach_9 ?_
    refine lv_if_eq hx hb dX1_reach_10 (tgt := 14) (by decide) (fun hc => ?_) (fun hc => ?_)
    · have hnS : o ∉ S := fun h9 => hp_10 ((by rw [hI.2.2.2.2.2.2 o ho3, if_pos h9] : rb o = 1).symm.trans hc)
      have hc2 : ¬ (o = 0 ∨ o ∈ S) := fun h9 => h9.elim h00 hnS
      have hadd := hp_K_add hI hoL hnS
      refine lv_aload_n hx hb dX1_reach_14 rfl (lv_at hl 0 rfl) ?_
      refine va_get (D := (dC, dI)) (ci := 1) (v := .ref b6) (C := RX1) (T := TX1) (N := 12) hx hb hts inX1 hown hK hP 0 rfl rfl 6 (by decide) (hts _ bw_fl_X1_26) (fun _ h9 => h9) rfl dX1_reach_15 ?_
      refine lv_iload_n hx hb dX1_reach_18 rfl (lv_at hl 1 rfl) ?_
      refine lv_iconst (v := 1) hx hb dX1_reach_19 (by decide) ?_
      refine hw_zast (j := o) hx hb hK hP hD hS 6 5 rfl rfl (rfl) (by omega) (by decide) (by decide) dX1_reach_20 (fun H locs hP hD hS => ?_)
      have hP : va_P (dC, dI) vwCl [(g0, .inr (1, [.int th, .ref b1, .ref b2, .ref b3, .ref b4, .ref b5, .ref b6, .ref b7, .ref b8, .int ob, .int co, .int tp])), (b1, .inl (e1, 301, .inl kd)), (b2, .inl (e2, 301, .inl zs)), (b3, .inl (e3, 301, .inl od)), (b4, .inl (e4, 12040, .inl lk)), (b5, .inl (e5, 12040, .inr (.inl nu))), (b6, .inl (e6, 301, .inl (upd rb o 1))), (b7, .inl (e7, 16, .inl rg)), (b8, .inl (e8, 301, .inl td))] H := hP
      have hD : va_D A [(g0, .inr (1, [.int th, .ref b1, .ref b2, .ref b3, .ref b4, .ref b5, .ref b6, .ref b7, .ref b8, .int ob, .int co, .int tp])), (b1, .inl (e1, 301, .inl kd)), (b2, .inl (e2, 301, .inl zs)), (b3, .inl (e3, 301, .inl od)), (b4, .inl (e4, 12040, .inl lk)), (b5, .inl (e5, 12040, .inr (.inl nu))), (b6, .inl (e6, 301, .inl (upd rb o 1))), (b7, .inl (e7, 16, .inl rg)), (b8, .inl (e8, 301, .inl td))] := hD
      refine lv_aload_n hx hb dX1_reach_21 rfl (lv_at hl 0 rfl) ?_
      refine va_get (D := (dC, dI)) (ci := 1) (v := .ref b8) (C := RX1) (T := TX1) (N := 12) hx hb hts inX1 hown hK hP 0 rfl rfl 8 (by decide) (hts _ bw_fl_X1_33) (fun _ h9 => h9) rfl dX1_reach_22 ?_
      refine lv_aload_n hx hb dX1_reach_25 rfl (lv_at hl 0 rfl) ?_
      refine va_get (D := (dC, dI)) (ci := 1) (v := .int tp) (C := RX1) (T := TX1) (N := 12) hx hb hts inX1 hown hK hP 0 rfl rfl 11 (by decide) (hts _ bw_fl_X1_47) (fun _ h9 => h9) rfl dX1_reach_26 ?_
      refine lv_iload_n hx hb dX1_reach_29 rfl (lv_at hl 1 rfl) ?_
      refine hw_iast (j := T.length) hx hb hK hP hD hS 8 7 rfl rfl (hI.1) (by omega) (by decide) dX1_reach_30 (fun H locs hP hD hS => ?_)
      have hP : va_P (dC, dI) vwCl [(g0, .inr (1, [.int th, .ref b1, .ref b2, .ref b3, .ref b4, .ref b5, .ref b6, .ref b7, .ref b8, .int ob, .int co, .int tp])), (b1, .inl (e1, 301, .inl kd)), (b2, .inl (e2, 301, .inl zs)), (b3, .inl (e3, 301, .inl od)), (b4, .inl (e4, 12040, .inl lk)), (b5, .inl (e5, 12040, .inr (.inl nu))), (b6, .inl (e6, 301, .inl (upd rb o 1))), (b7, .inl (e7, 16, .inl rg)), (b8, .inl (e8, 301, .inl (upd td T.length (nI o))))] H := hP
      have hD : va_D A [(g0, .inr (1, [.int th, .ref b1, .ref b2, .ref b3, .ref b4, .ref b5, .ref b6, .ref b7, .ref b8, .int ob, .int co, .int tp])), (b1, .inl (e1, 301, .inl kd)), (b2, .inl (e2, 301, .inl zs)), (b3, .inl (e3, 301, .inl od)), (b4, .inl (e4, 12040, .inl lk)), (b5, .inl (e5, 12040, .inr (.inl nu))), (b6, .inl (e6, 301, .inl (upd rb o 1))), (b7, .inl (e7, 16, .inl rg)), (b8, .inl (e8, 301, .inl (upd td T.length (nI o))))] := hD
      refine lv_aload_n hx hb dX1_reach_31 rfl (lv_at hl 0 rfl) ?_
      refine lv_dup hx hb dX1_reach_32 rfl ?_
      refine va_get (D := (dC, dI)) (ci := 1) (v := .int tp) (C := RX1) (T := TX1) (N := 12) hx hb hts inX1 hown hK hP 0 rfl rfl 11 (by decide) (hts _ bw_fl_X1_47) (fun _ h9 => h9) rfl dX1_reach_33 ?_
      refine lv_iconst (v := 1) hx hb dX1_reach_36 (by decide) ?_
      refine lv_iadd hx hb dX1_reach_37 ?_
      refine hw_topi (y := nI (T.length + 1)) (by rw [hI.1]; exact nI_1 _) ?_
      refine va_put (D := (dC, dI)) (ci := 1) (v := .int (nI (T.length + 1))) (ty := .int) (C := RX1) (T := TX1) (N := 12) hx hb hts inX1 tyX1 tyX1_ok nmX1 hown hK hP hD hS 0 rfl rfl 11 (by decide) (hts _ bw_fl_X1_47) (fun _ h9 => h9) rfl (by decide +kernel) rfl rfl (Nat.le_of_ble_eq_true rfl) dX1_reach_38 (fun H locs hP hD hS => ?_)
      have hP : va_P (dC, dI) vwCl [(g0, .inr (1, [.int th, .ref b1, .ref b2, .ref b3, .ref b4, .ref b5, .ref b6, .ref b7, .ref b8, .int ob, .int co, .int (nI (T.length + 1))])), (b1, .inl (e1, 301, .inl kd)), (b2, .inl (e2, 301, .inl zs)), (b3, .inl (e3, 301, .inl od)), (b4, .inl (e4, 12040, .inl lk)), (b5, .inl (e5, 12040, .inr (.inl nu))), (b6, .inl (e6, 301, .inl (upd rb o 1))), (b7, .inl (e7, 16, .inl rg)), (b8, .inl (e8, 301, .inl (upd td T.length (nI o))))] H := hP
      have hD : va_D A [(g0, .inr (1, [.int th, .ref b1, .ref b2, .ref b3, .ref b4, .ref b5, .ref b6, .ref b7, .ref b8, .int ob, .int co, .int (nI (T.length + 1))])), (b1, .inl (e1, 301, .inl kd)), (b2, .inl (e2, 301, .inl zs)), (b3, .inl (e3, 301, .inl od)), (b4, .inl (e4, 12040, .inl lk)), (b5, .inl (e5, 12040, .inr (.inl nu))), (b6, .inl (e6, 301, .inl (upd rb o 1))), (b7, .inl (e7, 16, .inl rg)), (b8, .inl (e8, 301, .inl (upd td T.length (nI o))))] := hD
      subst hQ9
      exact W.vret hx hb hr (fun t ht hWm => ⟨⟨((upd rb o 1), (upd td T.length (nI o)), (nI (T.length + 1))), rfl, by rw [hp_nt_n hc2, hp_tt_n hc2]; exact hadd, by rw [ht]; exact hP, va_K.moved hWm.alike hK, hD⟩, hS.F ht⟩) hS.2.2 dX1_reach_41
    · have hc2 : o = 0 ∨ o ∈ S := Or.inr (Classical.byContradiction fun h9 => hc (by rw [hI.2.2.2.2.2.2 o ho3, if_neg h9]))
      subst hQ9
      exact W.vret hx hb hr (fun t ht hWm => ⟨⟨(rb, td, tp), rfl, by rw [hp_nt_y hc2, hp_tt_y hc2]; exact hI, by rw [ht]; exact hP, va_K.moved hWm.alike hK, hD⟩, hS.F ht⟩) hS.2.2 dX1_reach_13

set_option maxHeartbeats 4000000 in
set_option maxRecDepth 100000 in
theorem c_X1_collect (l : Launch) (dC : Nat → ClassId) (dI : Nat → Nat → Nat) (g0 b1 b2 b3 b4 b5 b6 b7 b8 : Nat) (e1 e2 e3 e4 e5 e6 e7 e8 : ClassId) (th : Int32) (kd zs od lk : Nat → Int32) (nu : Nat → Int64) (rb rg td : Nat → Int32) (ob co tp : Int32) (sz : Nat) (M : hp_S) (hW : hp_W M) (hQ : hp_Q M kd zs od lk nu rg ob co) : Met l yX1_collect wsX1_collect ({ frames := 1, cells := 0, slots := 0, locals := 21 }) (va_Pc [.ref g0] (hw_pre (dC, dI) vwCl [(e1, .int), (e2, .int), (e3, .int), (e4, .int), (e5, .long), (e6, .boolean), (e7, .int), (e8, .int)] [(g0, .inr (1, [.int th, .ref b1, .ref b2, .ref b3, .ref b4, .ref b5, .ref b6, .ref b7, .ref b8, .int ob, .int co, .int tp])), (b1, .inl (e1, 301, .inl kd)), (b2, .inl (e2, 301, .inl zs)), (b3, .inl (e3, 301, .inl od)), (b4, .inl (e4, 12040, .inl lk)), (b5, .inl (e5, 12040, .inr (.inl nu))), (b6, .inl (e6, 301, .inl rb)), (b7, .inl (e7, 16, .inl rg)), (b8, .inl (e8, 301, .inl td))] sz)) (va_Qi (fun (r : Int32) (u : Int32 × (Nat → Int32) × (Nat → Int32) × (Nat → Int32) × (Nat → Int32) × (Nat → Int32) × Int32 × Int32 × Int32) => r = nI ((hp_L M).length - (hp_L (hp_col M)).length) ∧ hp_Q (hp_col M) u.2.1 zs u.2.2.1 u.2.2.2.1 nu rg u.2.2.2.2.2.2.1 u.2.2.2.2.2.2.2.1 ∧ u.1 = 0) (fun u t => hw_B (dC, dI) vwCl [(e1, .int), (e2, .int), (e3, .int), (e4, .int), (e5, .long), (e6, .boolean), (e7, .int), (e8, .int)] (va_A [(g0, .inr (1, [.int th, .ref b1, .ref b2, .ref b3, .ref b4, .ref b5, .ref b6, .ref b7, .ref b8, .int ob, .int co, .int tp])), (b1, .inl (e1, 301, .inl kd)), (b2, .inl (e2, 301, .inl zs)), (b3, .inl (e3, 301, .inl od)), (b4, .inl (e4, 12040, .inl lk)), (b5, .inl (e5, 12040, .inr (.inl nu))), (b6, .inl (e6, 301, .inl rb)), (b7, .inl (e7, 16, .inl rg)), (b8, .inl (e8, 301, .inl td))] sz) ((fun u : Int32 × (Nat → Int32) × (Nat → Int32) × (Nat → Int32) × (Nat → Int32) × (Nat → Int32) × Int32 × Int32 × Int32 => [(g0, .inr (1, [.int u.1, .ref b1, .ref b2, .ref b3, .ref b4, .ref b5, .ref b6, .ref b7, .ref b8, .int u.2.2.2.2.2.2.1, .int u.2.2.2.2.2.2.2.1, .int u.2.2.2.2.2.2.2.2])), (b1, .inl (e1, 301, .inl u.2.1)), (b2, .inl (e2, 301, .inl zs)), (b3, .inl (e3, 301, .inl u.2.2.1)), (b4, .inl (e4, 12040, .inl u.2.2.2.1)), (b5, .inl (e5, 12040, .inr (.inl nu))), (b6, .inl (e6, 301, .inl u.2.2.2.2.1)), (b7, .inl (e7, 16, .inl rg)), (b8, .inl (e8, 301, .inl u.2.2.2.2.2.1))]) u) t) (va_A [(g0, .inr (1, [.int th, .ref b1, .ref b2, .ref b3, .ref b4, .ref b5, .ref b6, .ref b7, .ref b8, .int ob, .int co, .int tp])), (b1, .inl (e1, 301, .inl kd)), (b2, .inl (e2, 301, .inl zs)), (b3, .inl (e3, 301, .inl od)), (b4, .inl (e4, 12040, .inl lk)), (b5, .inl (e5, 12040, .inr (.inl nu))), (b6, .inl (e6, 301, .inl rb)), (b7, .inl (e7, 16, .inl rg)), (b8, .inl (e8, 301, .inl td))] sz)) 0 0 (va_A [(g0, .inr (1, [.int th, .ref b1, .ref b2, .ref b3, .ref b4, .ref b5, .ref b6, .ref b7, .ref b8, .int ob, .int co, .int tp])), (b1, .inl (e1, 301, .inl kd)), (b2, .inl (e2, 301, .inl zs)), (b3, .inl (e3, 301, .inl od)), (b4, .inl (e4, 12040, .inl lk)), (b5, .inl (e5, 12040, .inr (.inl nu))), (b6, .inl (e6, 301, .inl rb)), (b7, .inl (e7, 16, .inl rg)), (b8, .inl (e8, 301, .inl td))] sz) := by
  refine Met.ofW (cc := cX1_collect) (maxL := 5) (ret := some .int) (by decide) rfl ?_
  intro p e s m args below meth c s₁ B hml hv
  obtain ⟨hargs, hsz, hP, hK, hD0⟩ := hv
  have hx := B.exec
  have hb := B.bytes
  have hr := B.returns
  have hts : ∀ w ∈ wb, w.before _ s = true := fun w h => atoms_spec (ws := wsX1_collect) B.pre w (List.mem_cons_of_mem _ h)
  have hown : s.vm.findClass RX1 = some m.cls := findClass_of_methodNamed B.named
  have hlocks := B.notSynchronized
  subst hsz
  have hD := hD0.self (sz := s.heap.size)
  generalize hAe : va_A [(g0, .inr (1, [.int th, .ref b1, .ref b2, .ref b3, .ref b4, .ref b5, .ref b6, .ref b7, .ref b8, .int ob, .int co, .int tp])), (b1, .inl (e1, 301, .inl kd)), (b2, .inl (e2, 301, .inl zs)), (b3, .inl (e3, 301, .inl od)), (b4, .inl (e4, 12040, .inl lk)), (b5, .inl (e5, 12040, .inr (.inl nu))), (b6, .inl (e6, 301, .inl rb)), (b7, .inl (e7, 16, .inl rg)), (b8, .inl (e8, 301, .inl td))] s.heap.size = A at hD ⊢
  have hA : ∀ q : Nat, s.heap.size ≤ q → A q := fun q h => by rw [← hAe]; exact Or.inr h
  have hS : va_S A s.heap s.heap [] := va_S.rf
  generalize hQ9 : MQ below (va_Qi (fun (r : Int32) (u : Int32 × (Nat → Int32) × (Nat → Int32) × (Nat → Int32) × (Nat → Int32) × (Nat → Int32) × Int32 × Int32 × Int32) => r = nI ((hp_L M).length - (hp_L (hp_col M)).length) ∧ hp_Q (hp_col M) u.2.1 zs u.2.2.1 u.2.2.2.1 nu rg u.2.2.2.2.2.2.1 u.2.2.2.2.2.2.2.1 ∧ u.1 = 0) (fun u t => hw_B (dC, dI) vwCl [(e1, .int), (e2, .int), (e3, .int), (e4, .int), (e5, .long), (e6, .boolean), (e7, .int), (e8, .int)] A ((fun u : Int32 × (Nat → Int32) × (Nat → Int32) × (Nat → Int32) × (Nat → Int32) × (Nat → Int32) × Int32 × Int32 × Int32 => [(g0, .inr (1, [.int u.1, .ref b1, .ref b2, .ref b3, .ref b4, .ref b5, .ref b6, .ref b7, .ref b8, .int u.2.2.2.2.2.2.1, .int u.2.2.2.2.2.2.2.1, .int u.2.2.2.2.2.2.2.2])), (b1, .inl (e1, 301, .inl u.2.1)), (b2, .inl (e2, 301, .inl zs)), (b3, .inl (e3, 301, .inl u.2.2.1)), (b4, .inl (e4, 12040, .inl u.2.2.2.1)), (b5, .inl (e5, 12040, .inr (.inl nu))), (b6, .inl (e6, 301, .inl u.2.2.2.2.1)), (b7, .inl (e7, 16, .inl rg)), (b8, .inl (e8, 301, .inl u.2.2.2.2.2.1))]) u) t) A) args s 0 0 A = Q9
  have hl := lv_entry ([.ref g0]) (n := 5) (Nat.le_of_ble_eq_true rfl)
  rw [show entryFrame m args 5 = _ from (congrArg (fun z => entryFrame m z 5) hargs).trans (lg_entry_eq m [.ref g0] 5)]
  generalize (lg_sl ([.ref g0]) ++ List.replicate (5 - (lg_sl ([.ref g0])).length) Slot.unset).toArray = ls at hl ⊢
  have hl : lv_has ls 5 [(0, .ref g0)] := hl
  obtain ⟨H, hH⟩ : ∃ H, H = s.heap := ⟨_, rfl⟩
  rw [← hH] at hP
  have hS : va_S A s.heap H [] := by rw [hH]; exact hS
  rw [← hH]
  generalize ([] : List Loc) = locs at hS ⊢
  refine lv_aload_n hx hb dX1_collect_0 rfl (lv_at hl 0 rfl) ?_
  refine lv_iconst (v := 0) hx hb dX1_collect_1 (by decide) ?_
  refine va_put (D := (dC, dI)) (ci := 1) (v := .int 0) (ty := .int) (C := RX1) (T := TX1) (N := 12) hx hb hts inX1 tyX1 tyX1_ok nmX1 hown hK hP hD hS 0 rfl rfl 0 (by decide) (hts _ bw_fl_X1_36) (fun _ h9 => h9) rfl (by decide +kernel) rfl rfl (Nat.le_of_ble_eq_true rfl) dX1_collect_2 (fun H locs hP hD hS => ?_)
  have hP : va_P (dC, dI) vwCl [(g0, .inr (1, [.int 0, .ref b1, .ref b2, .ref b3, .ref b4, .ref b5, .ref b6, .ref b7, .ref b8, .int ob, .int co, .int tp])), (b1, .inl (e1, 301, .inl kd)), (b2, .inl (e2, 301, .inl zs)), (b3, .inl (e3, 301, .inl od)), (b4, .inl (e4, 12040, .inl lk)), (b5, .inl (e5, 12040, .inr (.inl nu))), (b6, .inl (e6, 301, .inl rb)), (b7, .inl (e7, 16, .inl rg)), (b8, .inl (e8, 301, .inl td))] H := hP
  have hD : va_D A [(g0, .inr (1, [.int 0, .ref b1, .ref b2, .ref b3, .ref b4, .ref b5, .ref b6, .ref b7, .ref b8, .int ob, .int co, .int tp])), (b1, .inl (e1, 301, .inl kd)), (b2, .inl (e2, 301, .inl zs)), (b3, .inl (e3, 301, .inl od)), (b4, .inl (e4, 12040, .inl lk)), (b5, .inl (e5, 12040, .inr (.inl nu))), (b6, .inl (e6, 301, .inl rb)), (b7, .inl (e7, 16, .inl rg)), (b8, .inl (e8, 301, .inl td))] := hD
  refine lv_aload_n hx hb dX1_collect_5 rfl (lv_at hl 0 rfl) ?_
  refine lv_dup hx hb dX1_collect_6 rfl ?_
  refine va_get (D := (dC, dI)) (ci := 1) (v := .int co) (C := RX1) (T := TX1) (N := 12) hx hb hts inX1 hown hK hP 0 rfl rfl 10 (by decide) (hts _ bw_fl_X1_50) (fun _ h9 => h9) rfl dX1_collect_7 ?_
  refine lv_iconst (v := 1) hx hb dX1_collect_10 (by decide) ?_
  refine lv_iadd hx hb dX1_collect_11 ?_
  refine va_put (D := (dC, dI)) (ci := 1) (v := .int (co + 1)) (ty := .int) (C := RX1) (T := TX1) (N := 12) hx hb hts inX1 tyX1 tyX1_ok nmX1 hown hK hP hD hS 0 rfl rfl 10 (by decide) (hts _ bw_fl_X1_50) (fun _ h9 => h9) rfl (by decide +kernel) rfl rfl (Nat.le_of_ble_eq_true rfl) dX1_collect_12 (fun H locs hP hD hS => ?_)
  have hP : va_P (dC, dI) vwCl [(g0, .inr (1, [.int 0, .ref b1, .ref b2, .ref b3, .ref b4, .ref b5, .ref b6, .ref b7, .ref b8, .int ob, .int (co + 1), .int tp])), (b1, .inl (e1, 301, .inl kd)), (b2, .inl (e2, 301, .inl zs)), (b3, .inl (e3, 301, .inl od)), (b4, .inl (e4, 12040, .inl lk)), (b5, .inl (e5, 12040, .inr (.inl nu))), (b6, .inl (e6, 301, .inl rb)), (b7, .inl (e7, 16, .inl rg)), (b8, .inl (e8, 301, .inl td))] H := hP
  have hD : va_D A [(g0, .inr (1, [.int 0, .ref b1, .ref b2, .ref b3, .ref b4, .ref b5, .ref b6, .ref b7, .ref b8, .int ob, .int (co + 1), .int tp])), (b1, .inl (e1, 301, .inl kd)), (b2, .inl (e2, 301, .inl zs)), (b3, .inl (e3, 301, .inl od)), (b4, .inl (e4, 12040, .inl lk)), (b5, .inl (e5, 12040, .inr (.inl nu))), (b6, .inl (e6, 301, .inl rb)), (b7, .inl (e7, 16, .inl rg)), (b8, .inl (e8, 301, .inl td))] := hD
  refine lv_iconst (v := 0) hx hb dX1_collect_15 (by decide) ?_
  refine hw_topi (y := nI 0) (nI_0.symm) ?_
  refine lv_istore_n hx hb dX1_collect_16 rfl hl (by decide) rfl (fun ls hl => ?_)
  have hl : lv_has ls 5 [(1, .int (nI 0)), (0, .ref g0)] := hl
  have loopA : ∀ (n9 : Nat) (k : Nat) (rb : Nat → Int32) (H : Heap) (locs : List Loc) (ls : Array Slot), 301 - k < n9 → (k ≤ 301 ∧ ∀ o, o < k → rb o = 0) → va_P (dC, dI) vwCl [(g0, .inr (1, [.int 0, .ref b1, .ref b2, .ref b3, .ref b4, .ref b5, .ref b6, .ref b7, .ref b8, .int ob, .int (co + 1), .int tp])), (b1, .inl (e1, 301, .inl kd)), (b2, .inl (e2, 301, .inl zs)), (b3, .inl (e3, 301, .inl od)), (b4, .inl (e4, 12040, .inl lk)), (b5, .inl (e5, 12040, .inr (.inl nu))), (b6, .inl (e6, 301, .inl rb)), (b7, .inl (e7, 16, .inl rg)), (b8, .inl (e8, 301, .inl td))] H → va_D A [(g0, .inr (1, [.int 0, .ref b1, .ref b2, .ref b3, .ref b4, .ref b5, .ref b6, .ref b7, .ref b8, .int ob, .int (co + 1), .int tp])), (b1, .inl (e1, 301, .inl kd)), (b2, .inl (e2, 301, .inl zs)), (b3, .inl (e3, 301, .inl od)), (b4, .inl (e4, 12040, .inl lk)), (b5, .inl (e5, 12040, .inr (.inl nu))), (b6, .inl (e6, 301, .inl rb)), (b7, .inl (e7, 16, .inl rg)), (b8, .inl (e8, 301, .inl td))] → va_S A s.heap H locs → lv_has ls 5 [(1, .int (nI k)), (0, .ref g0)] → W p l e (headSpec wsX1_collect ({ frames := 1, cells := 0, slots := 0, locals := 21 })).room s m args below meth c H locs 0 0 Q9 (F0 m 17 ls []) := by
    intro n9
    induction n9 with
    | zero => intro k rb H locs ls hm; exact absurd hm (Nat.not_lt_zero _)
    | succ n9 ihA =>
      intro k rb H locs ls hm hI hP hD hS hl
      refine lv_iload_n hx hb dX1_collect_17 rfl (lv_at hl 0 rfl) ?_
      refine lv_sipush (v := 300) hx hb dX1_collect_18 (by decide) ?_
      refine lv_icmp_gt hx hb dX1_collect_21 (tgt := 37) (by decide) (fun hc => ?_) (fun hc => ?_)
      · have hk : k = 301 := by
          have h1 := (nI_ltI (a := 300) (by decide) (by omega)).mp hc
          omega
        subst hk
        refine lv_aload_n hx hb dX1_collect_37 rfl (lv_at hl 1 rfl) ?_
        refine lv_iconst (v := 0) hx hb dX1_collect_38 (by decide) ?_
        refine hw_topi (y := nI 0) (nI_0.symm) ?_
        refine va_put (D := (dC, dI)) (ci := 1) (v := .int (nI 0)) (ty := .int) (C := RX1) (T := TX1) (N := 12) hx hb hts inX1 tyX1 tyX1_ok nmX1 hown hK hP hD hS 0 rfl rfl 11 (by decide) (hts _ bw_fl_X1_47) (fun _ h9 => h9) rfl (by decide +kernel) rfl rfl (Nat.le_of_ble_eq_true rfl) dX1_collect_39 (fun H locs hP hD hS => ?_)
        have hP : va_P (dC, dI) vwCl [(g0, .inr (1, [.int 0, .ref b1, .ref b2, .ref b3, .ref b4, .ref b5, .ref b6, .ref b7, .ref b8, .int ob, .int (co + 1), .int (nI 0)])), (b1, .inl (e1, 301, .inl kd)), (b2, .inl (e2, 301, .inl zs)), (b3, .inl (e3, 301, .inl od)), (b4, .inl (e4, 12040, .inl lk)), (b5, .inl (e5, 12040, .inr (.inl nu))), (b6, .inl (e6, 301, .inl rb)), (b7, .inl (e7, 16, .inl rg)), (b8, .inl (e8, 301, .inl td))] H := hP
        have hD : va_D A [(g0, .inr (1, [.int 0, .ref b1, .ref b2, .ref b3, .ref b4, .ref b5, .ref b6, .ref b7, .ref b8, .int ob, .int (co + 1), .int (nI 0)])), (b1, .inl (e1, 301, .inl kd)), (b2, .inl (e2, 301, .inl zs)), (b3, .inl (e3, 301, .inl od)), (b4, .inl (e4, 12040, .inl lk)), (b5, .inl (e5, 12040, .inr (.inl nu))), (b6, .inl (e6, 301, .inl rb)), (b7, .inl (e7, 16, .inl rg)), (b8, .inl (e8, 301, .inl td))] := hD
        refine lv_iconst (v := 0) hx hb dX1_collect_42 (by decide) ?_
        refine hw_topi (y := nI 0) (nI_0.symm) ?_
        refine lv_istore_n hx hb dX1_collect_43 rfl hl (by decide) rfl (fun ls hl => ?_)
        have hl : lv_has ls 5 [(1, .int (nI 0)), (0, .ref g0)] := hl
        have loopB : ∀ (n9 : Nat) (k : Nat) (Sx : List Nat) (Tx : List Nat) (rb : Nat → Int32) (td : Nat → Int32) (tp : Int32) (H : Heap) (locs : List Loc) (ls : Array Slot), 16 - k < n9 → (k ≤ 16 ∧ hp_K M Sx Tx rb td tp ∧ hp_Y M Sx Tx 0 0 ∧ hp_Yr M Sx k) → va_P (dC, dI) vwCl [(g0, .inr (1, [.int 0, .ref b1, .ref b2, .ref b3, .ref b4, .ref b5, .ref b6, .ref b7, .ref b8, .int ob, .int (co + 1), .int tp])), (b1, .inl (e1, 301, .inl kd)), (b2, .inl (e2, 301, .inl zs)), (b3, .inl (e3, 301, .inl od)), (b4, .inl (e4, 12040, .inl lk)), (b5, .inl (e5, 12040, .inr (.inl nu))), (b6, .inl (e6, 301, .inl rb)), (b7, .inl (e7, 16, .inl rg)), (b8, .inl (e8, 301, .inl td))] H → va_D A [(g0, .inr (1, [.int 0, .ref b1, .ref b2, .ref b3, .ref b4, .ref b5, .ref b6, .ref b7, .ref b8, .int ob, .int (co + 1), .int tp])), (b1, .inl (e1, 301, .inl kd)), (b2, .inl (e2, 301, .inl zs)), (b3, .inl (e3, 301, .inl od)), (b4, .inl (e4, 12040, .inl lk)), (b5, .inl (e5, 12040, .inr (.inl nu))), (b6, .inl (e6, 301, .inl rb)), (b7, .inl (e7, 16, .inl rg)), (b8, .inl (e8, 301, .inl td))] → va_S A s.heap H locs → lv_has ls 5 [(1, .int (nI k)), (0, .ref g0)] → W p l e (headSpec wsX1_collect ({ frames := 1, cells := 0, slots := 0, locals := 21 })).room s m args below meth c H locs 0 0 Q9 (F0 m 44 ls []) := by
          intro n9
          induction n9 with
          | zero => intro k Sx Tx rb td tp H locs ls hm; exact absurd hm (Nat.not_lt_zero _)
          | succ n9 ihB =>
            intro k Sx Tx rb td tp H locs ls hm hI hP hD hS hl
            refine lv_iload_n hx hb dX1_collect_44 rfl (lv_at hl 0 rfl) ?_
            refine lv_bipush (v := 16) hx hb dX1_collect_45 (by decide) ?_
            refine lv_icmp_ge hx hb dX1_collect_47 (tgt := 66) (by decide) (fun hc => ?_) (fun hc => ?_)
            · have hk : k = 16 := by
                have h1 := (nI_leI (a := 16) (by decide) (by omega)).mp hc
                omega
              subst hk
              have loopC : ∀ (n9 : Nat) (Sx : List Nat) (Tx : List Nat) (px : Nat) (ix : Nat) (rb : Nat → Int32) (td : Nat → Int32) (tp : Int32) (H : Heap) (locs : List Loc) (ls : Array Slot), 2 * (300 - Sx.length) + Tx.length < n9 → (hp_K M Sx Tx rb td tp ∧ hp_Y M Sx Tx px ix ∧ (hp_z M px ≤ ix ∨ hp_k M px ≠ 1 ∨ px ∉ Sx) ∧ hp_Yr M Sx 16) → va_P (dC, dI) vwCl [(g0, .inr (1, [.int 0, .ref b1, .ref b2, .ref b3, .ref b4, .ref b5, .ref b6, .ref b7, .ref b8, .int ob, .int (co + 1), .int tp])), (b1, .inl (e1, 301, .inl kd)), (b2, .inl (e2, 301, .inl zs)), (b3, .inl (e3, 301, .inl od)), (b4, .inl (e4, 12040, .inl lk)), (b5, .inl (e5, 12040, .inr (.inl nu))), (b6, .inl (e6, 301, .inl rb)), (b7, .inl (e7, 16, .inl rg)), (b8, .inl (e8, 301, .inl td))] H → va_D A [(g0, .inr (1, [.int 0, .ref b1, .ref b2, .ref b3, .ref b4, .ref b5, .ref b6, .ref b7, .ref b8, .int ob, .int (co + 1), .int tp])), (b1, .inl (e1, 301, .inl kd)), (b2, .inl (e2, 301, .inl zs)), (b3, .inl (e3, 301, .inl od)), (b4, .inl (e4, 12040, .inl lk)), (b5, .inl (e5, 12040, .inr (.inl nu))), (b6, .inl (e6, 301, .inl rb)), (b7, .inl (e7, 16, .inl rg)), (b8, .inl (e8, 301, .inl td))] → va_S A s.heap H locs → lv_has ls 5 [(0, .ref g0)] → W p l e (headSpec wsX1_collect ({ frames := 1, cells := 0, slots := 0, locals := 21 })).room s m args below meth c H locs 0 0 Q9 (F0 m 66 ls []) := by
                intro n9
                induction n9 with
                | zero => intro Sx Tx px ix rb td tp H locs ls hm; exact absurd hm (Nat.not_lt_zero _)
                | succ n9 ihC =>
                  intro Sx Tx px ix rb td tp H locs ls hm hI hP hD hS hl
                  have hlen := hp_K_len hW hI.1
                  refine lv_aload_n hx hb dX1_collect_66 rfl (lv_at hl 0 rfl) ?_
                  refine va_get (D := (dC, dI)) (ci := 1) (v := .int tp) (C := RX1) (T := TX1) (N := 12) hx hb hts inX1 hown hK hP 0 rfl rfl 11 (by decide) (hts _ bw_fl_X1_47) (fun _ h9 => h9) rfl dX1_collect_67 ?_
                  refine lv_if_le hx hb dX1_collect_70 (tgt := 139) (by decide) (fun hc => ?_) (fun hc => ?_)
                  · have hT : Tx = [] := List.length_eq_zero_iff.mp (by rw [hI.1.1] at hc; have h1 := (nI_leI (b := 0) (by omega) (by decide)).mp hc; omega)
                    subst hT
                    have hend := hp_Y_end hI.2.1 hI.2.2.1 hI.2.2.2
                    obtain ⟨Se, hSe⟩ : ∃ z, z = Sx := ⟨_, rfl⟩
                    rw [← hSe] at hend
                    have hKe := hI.1
                    rw [← hSe] at hKe
                    refine lv_iconst (v := 0) hx hb dX1_collect_139 (by decide) ?_
                    refine hw_topi (y := nI (([] : List Nat).filter (hp_b M)).length) (nI_0.symm) ?_
                    refine lv_istore_n hx hb dX1_collect_140 rfl hl (by decide) rfl (fun ls hl => ?_)
                    have hl : lv_has ls 5 [(1, .int (nI (([] : List Nat).filter (hp_b M)).length)), (0, .ref g0)] := hl
                    refine lv_iconst (v := 0) hx hb dX1_collect_141 (by decide) ?_
                    refine hw_topi (y := nI (([] : List Nat).length - (([] : List Nat).filter (hp_b M)).length)) (nI_0.symm) ?_
                    refine lv_istore_n hx hb dX1_collect_142 rfl hl (by decide) rfl (fun ls hl => ?_)
                    have hl : lv_has ls 5 [(2, .int (nI (([] : List Nat).length - (([] : List Nat).filter (hp_b M)).length))), (1, .int (nI (([] : List Nat).filter (hp_b M)).length)), (0, .ref g0)] := hl
                    refine lv_iconst (v := 0) hx hb dX1_collect_143 (by decide) ?_
                    refine hw_topi (y := nI ([] : List Nat).length) (nI_0.symm) ?_
                    refine lv_istore_n hx hb dX1_collect_144 rfl hl (by decide) rfl (fun ls hl => ?_)
                    have hl : lv_has ls 5 [(3, .int (nI ([] : List Nat).length)), (2, .int (nI (([] : List Nat).length - (([] : List Nat).filter (hp_b M)).length))), (1, .int (nI (([] : List Nat).filter (hp_b M)).length)), (0, .ref g0)] := hl
                    have loopE : ∀ (n9 : Nat) (pre : List Nat) (suf : List Nat) (kd : Nat → Int32) (od : Nat → Int32) (lk : Nat → Int32) (H : Heap) (locs : List Loc) (ls : Array Slot), suf.length < n9 → (hp_L M = pre ++ suf ∧ hp_G M pre suf kd od lk) → va_P (dC, dI) vwCl [(g0, .inr (1, [.int 0, .ref b1, .ref b2, .ref b3, .ref b4, .ref b5, .ref b6, .ref b7, .ref b8, .int ob, .int (co + 1), .int tp])), (b1, .inl (e1, 301, .inl kd)), (b2, .inl (e2, 301, .inl zs)), (b3, .inl (e3, 301, .inl od)), (b4, .inl (e4, 12040, .inl lk)), (b5, .inl (e5, 12040, .inr (.inl nu))), (b6, .inl (e6, 301, .inl rb)), (b7, .inl (e7, 16, .inl rg)), (b8, .inl (e8, 301, .inl td))] H → va_D A [(g0, .inr (1, [.int 0, .ref b1, .ref b2, .ref b3, .ref b4, .ref b5, .ref b6, .ref b7, .ref b8, .int ob, .int (co + 1), .int tp])), (b1, .inl (e1, 301, .inl kd)), (b2, .inl (e2, 301, .inl zs)), (b3, .inl (e3, 301, .inl od)), (b4, .inl (e4, 12040, .inl lk)), (b5, .inl (e5, 12040, .inr (.inl nu))), (b6, .inl (e6, 301, .inl rb)), (b7, .inl (e7, 16, .inl rg)), (b8, .inl (e8, 301, .inl td))] → va_S A s.heap H locs → lv_has ls 5 [(3, .int (nI pre.length)), (2, .int (nI (pre.length - (pre.filter (hp_b M)).length))), (1, .int (nI (pre.filter (hp_b M)).length)), (0, .ref g0)] → W p l e (headSpec wsX1_collect ({ frames := 1, cells := 0, slots := 0, locals := 21 })).room s m args below meth c H locs 0 0 Q9 (F0 m 145 ls []) := by
                      intro n9
                      induction n9 with
                      | zero => intro pre suf kd od lk H locs ls hm; exact absurd hm (Nat.not_lt_zero _)
                      | succ n9 ihE =>
                        intro pre suf kd od lk H locs ls hm hI hP hD hS hl
                        refine lv_iload_n hx hb dX1_collect_145 rfl (lv_at hl 0 rfl) ?_
                        refine lv_aload_n hx hb dX1_collect_146 rfl (lv_at hl 3 rfl) ?_
                        refine va_get (D := (dC, dI)) (ci := 1) (v := .int ob) (C := RX1) (T := TX1) (N := 12) hx hb hts inX1 hown hK hP 0 rfl rfl 9 (by decide) (hts _ bw_fl_X1_40) (fun _ h9 => h9) rfl dX1_collect_147 ?_
                        refine lv_icmp_ge hx hb dX1_collect_150 (tgt := 242) (by decide) (fun hc => ?_) (fun hc => ?_)
                        · have hlen := congrArg List.length hI.1
                          rw [List.length_append] at hlen
                          have hL3 := hp_L_len hW
                          rw [hQ.1] at hc
                          have hs : suf = [] := List.length_eq_zero_iff.mp (by have h1 := (nI_leI (by omega) (by omega)).mp hc; omega)
                          subst hs
                          have hpre : hp_L M = pre := by rw [hI.1, List.append_nil]
                          refine lv_aload_n hx hb dX1_collect_242 rfl (lv_at hl 3 rfl) ?_
                          refine lv_iload_n hx hb dX1_collect_243 rfl (lv_at hl 2 rfl) ?_
                          refine va_put (D := (dC, dI)) (ci := 1) (v := .int (nI (pre.filter (hp_b M)).length)) (ty := .int) (C := RX1) (T := TX1) (N := 12) hx hb hts inX1 tyX1 tyX1_ok nmX1 hown hK hP hD hS 0 rfl rfl 9 (by decide) (hts _ bw_fl_X1_40) (fun _ h9 => h9) rfl (by decide +kernel) rfl rfl (Nat.le_of_ble_eq_true rfl) dX1_collect_244 (fun H locs hP hD hS => ?_)
                          have hP : va_P (dC, dI) vwCl [(g0, .inr (1, [.int 0, .ref b1, .ref b2, .ref b3, .ref b4, .ref b5, .ref b6, .ref b7, .ref b8, .int (nI (pre.filter (hp_b M)).length), .int (co + 1), .int tp])), (b1, .inl (e1, 301, .inl kd)), (b2, .inl (e2, 301, .inl zs)), (b3, .inl (e3, 301, .inl od)), (b4, .inl (e4, 12040, .inl lk)), (b5, .inl (e5, 12040, .inr (.inl nu))), (b6, .inl (e6, 301, .inl rb)), (b7, .inl (e7, 16, .inl rg)), (b8, .inl (e8, 301, .inl td))] H := hP
                          have hD : va_D A [(g0, .inr (1, [.int 0, .ref b1, .ref b2, .ref b3, .ref b4, .ref b5, .ref b6, .ref b7, .ref b8, .int (nI (pre.filter (hp_b M)).length), .int (co + 1), .int tp])), (b1, .inl (e1, 301, .inl kd)), (b2, .inl (e2, 301, .inl zs)), (b3, .inl (e3, 301, .inl od)), (b4, .inl (e4, 12040, .inl lk)), (b5, .inl (e5, 12040, .inr (.inl nu))), (b6, .inl (e6, 301, .inl rb)), (b7, .inl (e7, 16, .inl rg)), (b8, .inl (e8, 301, .inl td))] := hD
                          refine lv_iload_n hx hb dX1_collect_247 rfl (lv_at hl 1 rfl) ?_
                          subst hQ9
                          exact W.iret (v := nI (pre.length - (pre.filter (hp_b M)).length)) hx hb hr (fun t ht hWm => ⟨⟨nI (pre.length - (pre.filter (hp_b M)).length), (0, kd, od, lk, rb, td, (nI (pre.filter (hp_b M)).length), (co + 1), tp), rfl, ⟨by rw [← hpre]; rfl, by have h9 := hI.2; rw [← hpre] at h9 ⊢; exact hp_Q_col hW hQ h9, rfl⟩, by rw [ht]; exact hP, va_K.moved hWm.alike hK, hD⟩, hS.F ht⟩) hS.2.2 dX1_collect_248
                        · have hlen := congrArg List.length hI.1
                          rw [List.length_append] at hlen
                          have hL3 := hp_L_len hW
                          rw [hQ.1] at hc
                          have hs : 0 < suf.length := Nat.pos_of_ne_zero (fun h9 => hc ((nI_leI (by omega) (by omega)).mpr (by omega)))
                          obtain ⟨o, suf2, rfl⟩ : ∃ o suf2, suf = o :: suf2 := by
                            cases suf with
                            | nil => exact absurd hs (Nat.lt_irrefl _)
                            | cons o suf2 => exact ⟨o, suf2, rfl⟩
                          have ho : o ∈ hp_L M := by rw [hI.1]; simp
                          obtain ⟨hod, hkd, hlk⟩ := hp_G_k hW hI.1 hI.2
                          have hw9 := hW.2.1 o ho
                          have hfl := hp_filter_len (hp_b M) pre
                          have hrbo : ∀ x, x ≤ 300 → (rb x = 0 ↔ ¬ hp_b M x = true) := fun x hx => by
                            rw [hKe.2.2.2.2.2.2 x hx]
                            by_cases h9 : x ∈ Se
                            · rw [if_pos h9]; exact ⟨fun h8 => absurd h8 hp_10, fun h8 => absurd ((hend x).mp h9) h8⟩
                            · rw [if_neg h9]; exact ⟨fun _ h8 => h9 ((hend x).mpr h8), fun _ => rfl⟩
                          simp only [List.length_cons] at hlen hm
                          refine lv_aload_n hx hb dX1_collect_153 rfl (lv_at hl 3 rfl) ?_
                          refine va_get (D := (dC, dI)) (ci := 1) (v := .ref b3) (C := RX1) (T := TX1) (N := 12) hx hb hts inX1 hown hK hP 0 rfl rfl 3 (by decide) (hts _ bw_fl_X1_16) (fun _ h9 => h9) rfl dX1_collect_154 ?_
                          refine lv_iload_n hx hb dX1_collect_157 rfl (lv_at hl 0 rfl) ?_
                          refine hw_iald (j := pre.length) hx hb hK hP 3 2 rfl rfl (rfl) (by omega) (by decide) dX1_collect_158 ?_
                          refine hw_topi (y := nI o) (hod) ?_
                          refine lv_istore hx hb dX1_collect_159 hl (by decide) rfl (fun ls hl => ?_)
                          have hl : lv_has ls 5 [(4, .int (nI o)), (3, .int (nI pre.length)), (2, .int (nI (pre.length - (pre.filter (hp_b M)).length))), (1, .int (nI (pre.filter (hp_b M)).length)), (0, .ref g0)] := hl
                          refine lv_aload_n hx hb dX1_collect_161 rfl (lv_at hl 4 rfl) ?_
                          refine va_get (D := (dC, dI)) (ci := 1) (v := .ref b6) (C := RX1) (T := TX1) (N := 12) hx hb hts inX1 hown hK hP 0 rfl rfl 6 (by decide) (hts _ bw_fl_X1_26) (fun _ h9 => h9) rfl dX1_collect_162 ?_
                          refine lv_iload hx hb dX1_collect_165 (lv_at hl 0 rfl) ?_
                          refine hw_zald (j := o) hx hb hK hP 6 5 rfl rfl (rfl) (by omega) (by decide) dX1_collect_167 ?_
                          refine lv_if_ne hx hb dX1_collect_168 (tgt := 185) (by decide) (fun hc => ?_) (fun hc => ?_)
                          · have hbo : hp_b M o = true := Classical.byContradiction fun h9 => hc ((hrbo o (by omega)).mpr h9)
                            have hIE := hI
                            have join225 : ∀ (lk1 : Nat → Int32) (H : Heap) (locs : List Loc) (ls : Array Slot), (hp_lw M o lk lk1) → va_P (dC, dI) vwCl [(g0, .inr (1, [.int 0, .ref b1, .ref b2, .ref b3, .ref b4, .ref b5, .ref b6, .ref b7, .ref b8, .int ob, .int (co + 1), .int tp])), (b1, .inl (e1, 301, .inl kd)), (b2, .inl (e2, 301, .inl zs)), (b3, .inl (e3, 301, .inl od)), (b4, .inl (e4, 12040, .inl lk1)), (b5, .inl (e5, 12040, .inr (.inl nu))), (b6, .inl (e6, 301, .inl rb)), (b7, .inl (e7, 16, .inl rg)), (b8, .inl (e8, 301, .inl td))] H → va_D A [(g0, .inr (1, [.int 0, .ref b1, .ref b2, .ref b3, .ref b4, .ref b5, .ref b6, .ref b7, .ref b8, .int ob, .int (co + 1), .int tp])), (b1, .inl (e1, 301, .inl kd)), (b2, .inl (e2, 301, .inl zs)), (b3, .inl (e3, 301, .inl od)), (b4, .inl (e4, 12040, .inl lk1)), (b5, .inl (e5, 12040, .inr (.inl nu))), (b6, .inl (e6, 301, .inl rb)), (b7, .inl (e7, 16, .inl rg)), (b8, .inl (e8, 301, .inl td))] → va_S A s.heap H locs → lv_has ls 5 [(4, .int (nI o)), (3, .int (nI pre.length)), (2, .int (nI (pre.length - (pre.filter (hp_b M)).length))), (1, .int (nI (pre.filter (hp_b M)).length)), (0, .ref g0)] → W p l e (headSpec wsX1_collect ({ frames := 1, cells := 0, slots := 0, locals := 21 })).room s m args below meth c H locs 0 0 Q9 (F0 m 225 ls []) := by
                              intro lk1 H locs ls hI hP hD hS hl
                              have hJ := hI
                              refine lv_aload_n hx hb dX1_collect_225 rfl (lv_at hl 4 rfl) ?_
                              refine va_get (D := (dC, dI)) (ci := 1) (v := .ref b3) (C := RX1) (T := TX1) (N := 12) hx hb hts inX1 hown hK hP 0 rfl rfl 3 (by decide) (hts _ bw_fl_X1_16) (fun _ h9 => h9) rfl dX1_collect_226 ?_
                              refine lv_iload_n hx hb dX1_collect_229 rfl (lv_at hl 3 rfl) ?_
                              refine lv_iload hx hb dX1_collect_230 (lv_at hl 0 rfl) ?_
                              refine hw_iast (j := (pre.filter (hp_b M)).length) hx hb hK hP hD hS 3 2 rfl rfl (rfl) (by omega) (by decide) dX1_collect_232 (fun H locs hP hD hS => ?_)
                              have hP : va_P (dC, dI) vwCl [(g0, .inr (1, [.int 0, .ref b1, .ref b2, .ref b3, .ref b4, .ref b5, .ref b6, .ref b7, .ref b8, .int ob, .int (co + 1), .int tp])), (b1, .inl (e1, 301, .inl kd)), (b2, .inl (e2, 301, .inl zs)), (b3, .inl (e3, 301, .inl (upd od ((pre.filter (hp_b M)).length) (nI o)))), (b4, .inl (e4, 12040, .inl lk1)), (b5, .inl (e5, 12040, .inr (.inl nu))), (b6, .inl (e6, 301, .inl rb)), (b7, .inl (e7, 16, .inl rg)), (b8, .inl (e8, 301, .inl td))] H := hP
                              have hD : va_D A [(g0, .inr (1, [.int 0, .ref b1, .ref b2, .ref b3, .ref b4, .ref b5, .ref b6, .ref b7, .ref b8, .int ob, .int (co + 1), .int tp])), (b1, .inl (e1, 301, .inl kd)), (b2, .inl (e2, 301, .inl zs)), (b3, .inl (e3, 301, .inl (upd od ((pre.filter (hp_b M)).length) (nI o)))), (b4, .inl (e4, 12040, .inl lk1)), (b5, .inl (e5, 12040, .inr (.inl nu))), (b6, .inl (e6, 301, .inl rb)), (b7, .inl (e7, 16, .inl rg)), (b8, .inl (e8, 301, .inl td))] := hD
                              refine lv_iinc (k := 3) (v := nI ((pre ++ [o]).filter (hp_b M)).length) hx hb dX1_collect_233 hl rfl (by rw [hp_filter_t M pre hbo, List.length_append]; exact nI_1 _) (by decide) rfl (fun ls hl => ?_)
                              have hl : lv_has ls 5 [(1, .int (nI ((pre ++ [o]).filter (hp_b M)).length)), (4, .int (nI o)), (3, .int (nI pre.length)), (2, .int (nI (pre.length - (pre.filter (hp_b M)).length))), (0, .ref g0)] := hl
                              refine lv_iinc (k := 2) (v := nI (pre ++ [o]).length) hx hb dX1_collect_236 hl rfl (by rw [List.length_append]; exact nI_1 _) (by decide) rfl (fun ls hl => ?_)
                              have hl : lv_has ls 5 [(3, .int (nI (pre ++ [o]).length)), (1, .int (nI ((pre ++ [o]).filter (hp_b M)).length)), (4, .int (nI o)), (2, .int (nI (pre.length - (pre.filter (hp_b M)).length))), (0, .ref g0)] := hl
                              refine lv_goto hx hb dX1_collect_239 (tgt := 145) (by decide) ?_
                              rw [show nI (pre.length - (pre.filter (hp_b M)).length) = nI ((pre ++ [o]).length - ((pre ++ [o]).filter (hp_b M)).length) from by rw [hp_gone_t M pre hbo]] at hl
                              exact ihE (pre ++ [o]) suf2 kd (upd od ((pre.filter (hp_b M)).length) (nI o)) lk1 H locs ls (by omega) (⟨by rw [hIE.1, List.append_assoc]; rfl, hp_G_t hW hIE.1 hIE.2 hbo hJ.1 hJ.2⟩) hP hD hS (lv_sub hl [0, 3, 1, 4] rfl)
                            refine lv_aload_n hx hb dX1_collect_185 rfl (lv_at hl 4 rfl) ?_
                            refine va_get (D := (dC, dI)) (ci := 1) (v := .ref b1) (C := RX1) (T := TX1) (N := 12) hx hb hts inX1 hown hK hP 0 rfl rfl 1 (by decide) (hts _ bw_fl_X1_7) (fun _ h9 => h9) rfl dX1_collect_186 ?_
                            refine lv_iload hx hb dX1_collect_189 (lv_at hl 0 rfl) ?_
                            refine hw_iald (j := o) hx hb hK hP 1 0 rfl rfl (rfl) (by omega) (by decide) dX1_collect_191 ?_
                            refine hw_topi (y := nI (hp_k M o)) (hkd) ?_
                            refine lv_iconst (v := 3) hx hb dX1_collect_192 (by decide) ?_
                            refine lv_icmp_ne hx hb dX1_collect_193 (tgt := 225) (by decide) (fun hc => ?_) (fun hc => ?_)
                            · have hk3 : hp_k M o ≠ 3 := fun h9 => hc (by rw [h9]; decide)
                              exact join225 lk H locs ls (hp_lw_k hk3 hlk) hP hD hS (lv_sub hl [0, 1, 2, 3, 4] rfl)
                            · have hk3 : hp_k M o = 3 := (hp_k1 hW ho (n := 3) (by decide)).mp hc
                              have hz1 := hw9.2.2.2.2.2 hk3
                              have hl0 : lk (40 * o) = nI (hp_l M o 0) := hlk (by omega) 0 (by omega)
                              have hl3 : hp_l M o 0 ≤ 300 := (hW.2.2.2.2.1 o ho (by omega) 0 (by omega)).elim (fun h9 => by omega) (fun h9 => (hW.2.1 _ h9).2.1)
                              refine lv_aload_n hx hb dX1_collect_196 rfl (lv_at hl 4 rfl) ?_
                              refine va_get (D := (dC, dI)) (ci := 1) (v := .ref b6) (C := RX1) (T := TX1) (N := 12) hx hb hts inX1 hown hK hP 0 rfl rfl 6 (by decide) (hts _ bw_fl_X1_26) (fun _ h9 => h9) rfl dX1_collect_197 ?_
                              refine lv_aload_n hx hb dX1_collect_200 rfl (lv_at hl 4 rfl) ?_
                              refine va_get (D := (dC, dI)) (ci := 1) (v := .ref b4) (C := RX1) (T := TX1) (N := 12) hx hb hts inX1 hown hK hP 0 rfl rfl 4 (by decide) (hts _ bw_fl_X1_19) (fun _ h9 => h9) rfl dX1_collect_201 ?_
                              refine lv_bipush (v := 40) hx hb dX1_collect_204 (by decide) ?_
                              refine lv_iload hx hb dX1_collect_206 (lv_at hl 0 rfl) ?_
                              refine lv_imul hx hb dX1_collect_208 ?_
                              refine hw_iald (j := 40 * o) hx hb hK hP 4 3 rfl rfl (hp_40o o) (by omega) (by decide) dX1_collect_209 ?_
                              refine hw_topi (y := nI (hp_l M o 0)) (hl0) ?_
                              refine hw_zald (j := hp_l M o 0) hx hb hK hP 6 5 rfl rfl (rfl) (by omega) (by decide) dX1_collect_210 ?_
                              refine lv_if_ne hx hb dX1_collect_211 (tgt := 225) (by decide) (fun hc => ?_) (fun hc => ?_)
                              · have hbl : hp_b M (hp_l M o 0) = true := Classical.byContradiction fun h9 => hc ((hrbo _ hl3).mpr h9)
                                exact join225 lk H locs ls (hp_lw_t hW ho hk3 hlk hbl) hP hD hS (lv_sub hl [0, 1, 2, 3, 4] rfl)
                              · have hbl : ¬ hp_b M (hp_l M o 0) = true := (hrbo _ hl3).mp hc
                                refine lv_aload_n hx hb dX1_collect_214 rfl (lv_at hl 4 rfl) ?_
                                refine va_get (D := (dC, dI)) (ci := 1) (v := .ref b4) (C := RX1) (T := TX1) (N := 12) hx hb hts inX1 hown hK hP 0 rfl rfl 4 (by decide) (hts _ bw_fl_X1_19) (fun _ h9 => h9) rfl dX1_collect_215 ?_
                                refine lv_bipush (v := 40) hx hb dX1_collect_218 (by decide) ?_
                                refine lv_iload hx hb dX1_collect_220 (lv_at hl 0 rfl) ?_
                                refine lv_imul hx hb dX1_collect_222 ?_
                                refine lv_iconst (v := 0) hx hb dX1_collect_223 (by decide) ?_
                                refine hw_iast (j := 40 * o) hx hb hK hP hD hS 4 3 rfl rfl (hp_40o o) (by omega) (by decide) dX1_collect_224 (fun H locs hP hD hS => ?_)
                                have hP : va_P (dC, dI) vwCl [(g0, .inr (1, [.int 0, .ref b1, .ref b2, .ref b3, .ref b4, .ref b5, .ref b6, .ref b7, .ref b8, .int ob, .int (co + 1), .int tp])), (b1, .inl (e1, 301, .inl kd)), (b2, .inl (e2, 301, .inl zs)), (b3, .inl (e3, 301, .inl od)), (b4, .inl (e4, 12040, .inl (upd lk (40 * o) 0))), (b5, .inl (e5, 12040, .inr (.inl nu))), (b6, .inl (e6, 301, .inl rb)), (b7, .inl (e7, 16, .inl rg)), (b8, .inl (e8, 301, .inl td))] H := hP
                                have hD : va_D A [(g0, .inr (1, [.int 0, .ref b1, .ref b2, .ref b3, .ref b4, .ref b5, .ref b6, .ref b7, .ref b8, .int ob, .int (co + 1), .int tp])), (b1, .inl (e1, 301, .inl kd)), (b2, .inl (e2, 301, .inl zs)), (b3, .inl (e3, 301, .inl od)), (b4, .inl (e4, 12040, .inl (upd lk (40 * o) 0))), (b5, .inl (e5, 12040, .inr (.inl nu))), (b6, .inl (e6, 301, .inl rb)), (b7, .inl (e7, 16, .inl rg)), (b8, .inl (e8, 301, .inl td))] := hD
                                exact join225 (upd lk (40 * o) 0) H locs ls (hp_lw_f hW ho hk3 hbl) hP hD hS (lv_sub hl [0, 1, 2, 3, 4] rfl)
                          · have hbo : ¬ hp_b M o = true := (hrbo o (by omega)).mp hc
                            have hbf : hp_b M o = false := by cases e9 : hp_b M o
                                                              · rfl
                                                              · exact absurd e9 hbo
                            refine lv_aload_n hx hb dX1_collect_171 rfl (lv_at hl 4 rfl) ?_
                            refine va_get (D := (dC, dI)) (ci := 1) (v := .ref b1) (C := RX1) (T := TX1) (N := 12) hx hb hts inX1 hown hK hP 0 rfl rfl 1 (by decide) (hts _ bw_fl_X1_7) (fun _ h9 => h9) rfl dX1_collect_172 ?_
                            refine lv_iload hx hb dX1_collect_175 (lv_at hl 0 rfl) ?_
                            refine lv_iconst (v := 0) hx hb dX1_collect_177 (by decide) ?_
                            refine hw_iast (j := o) hx hb hK hP hD hS 1 0 rfl rfl (rfl) (by omega) (by decide) dX1_collect_178 (fun H locs hP hD hS => ?_)
                            have hP : va_P (dC, dI) vwCl [(g0, .inr (1, [.int 0, .ref b1, .ref b2, .ref b3, .ref b4, .ref b5, .ref b6, .ref b7, .ref b8, .int ob, .int (co + 1), .int tp])), (b1, .inl (e1, 301, .inl (upd kd o 0))), (b2, .inl (e2, 301, .inl zs)), (b3, .inl (e3, 301, .inl od)), (b4, .inl (e4, 12040, .inl lk)), (b5, .inl (e5, 12040, .inr (.inl nu))), (b6, .inl (e6, 301, .inl rb)), (b7, .inl (e7, 16, .inl rg)), (b8, .inl (e8, 301, .inl td))] H := hP
                            have hD : va_D A [(g0, .inr (1, [.int 0, .ref b1, .ref b2, .ref b3, .ref b4, .ref b5, .ref b6, .ref b7, .ref b8, .int ob, .int (co + 1), .int tp])), (b1, .inl (e1, 301, .inl (upd kd o 0))), (b2, .inl (e2, 301, .inl zs)), (b3, .inl (e3, 301, .inl od)), (b4, .inl (e4, 12040, .inl lk)), (b5, .inl (e5, 12040, .inr (.inl nu))), (b6, .inl (e6, 301, .inl rb)), (b7, .inl (e7, 16, .inl rg)), (b8, .inl (e8, 301, .inl td))] := hD
                            refine lv_iinc (k := 2) (v := nI ((pre ++ [o]).length - ((pre ++ [o]).filter (hp_b M)).length)) hx hb dX1_collect_179 hl rfl (by rw [hp_gone_f M pre hbo]; exact nI_1 _) (by decide) rfl (fun ls hl => ?_)
                            have hl : lv_has ls 5 [(2, .int (nI ((pre ++ [o]).length - ((pre ++ [o]).filter (hp_b M)).length))), (4, .int (nI o)), (3, .int (nI pre.length)), (1, .int (nI (pre.filter (hp_b M)).length)), (0, .ref g0)] := hl
                            refine lv_goto hx hb dX1_collect_182 (tgt := 236) (by decide) ?_
                            refine lv_iinc (k := 2) (v := nI (pre ++ [o]).length) hx hb dX1_collect_236 hl rfl (by rw [List.length_append]; exact nI_1 _) (by decide) rfl (fun ls hl => ?_)
                            have hl : lv_has ls 5 [(3, .int (nI (pre ++ [o]).length)), (2, .int (nI ((pre ++ [o]).length - ((pre ++ [o]).filter (hp_b M)).length))), (4, .int (nI o)), (1, .int (nI (pre.filter (hp_b M)).length)), (0, .ref g0)] := hl
                            refine lv_goto hx hb dX1_collect_239 (tgt := 145) (by decide) ?_
                            rw [← hp_filter_f M pre hbo] at hl
                            exact ihE (pre ++ [o]) suf2 (upd kd o 0) od lk H locs ls (by omega) (⟨by rw [hI.1, List.append_assoc]; rfl, hp_G_f hW hI.1 hI.2 hbf⟩) hP hD hS (lv_sub hl [0, 1, 3, 4] rfl)
                    exact loopE _ ([]) (hp_L M) kd od lk H locs ls (Nat.lt_succ_self _) (⟨rfl, hp_G_0 hQ⟩) hP hD hS (lv_sub hl [0, 1, 2, 3] rfl)
                  · have hT0 : 0 < Tx.length := Nat.pos_of_ne_zero (fun h9 => hc (by rw [hI.1.1, h9]; decide))
                    obtain ⟨T2, o, hT2⟩ := hp_last hT0
                    subst hT2
                    have hpop := hp_K_pop hI.1
                    have hoL := hI.1.2.2.2.1 o hpop.2.2.1
                    have hw9 := hW.2.1 o hoL
                    have hq9 := hQ.2.2.2.2.2 o hoL
                    have hl9 : T2.length < 301 := by simp only [List.length_append, List.length_cons, List.length_nil] at hlen; omega
                    refine lv_aload_n hx hb dX1_collect_73 rfl (lv_at hl 0 rfl) ?_
                    refine lv_dup hx hb dX1_collect_74 rfl ?_
                    refine va_get (D := (dC, dI)) (ci := 1) (v := .int tp) (C := RX1) (T := TX1) (N := 12) hx hb hts inX1 hown hK hP 0 rfl rfl 11 (by decide) (hts _ bw_fl_X1_47) (fun _ h9 => h9) rfl dX1_collect_75 ?_
                    refine lv_iconst (v := 1) hx hb dX1_collect_78 (by decide) ?_
                    refine lv_isub hx hb dX1_collect_79 ?_
                    refine hw_topi (y := nI T2.length) (by rw [hI.1.1, List.length_append]; exact nI_pred _) ?_
                    refine va_put (D := (dC, dI)) (ci := 1) (v := .int (nI T2.length)) (ty := .int) (C := RX1) (T := TX1) (N := 12) hx hb hts inX1 tyX1 tyX1_ok nmX1 hown hK hP hD hS 0 rfl rfl 11 (by decide) (hts _ bw_fl_X1_47) (fun _ h9 => h9) rfl (by decide +kernel) rfl rfl (Nat.le_of_ble_eq_true rfl) dX1_collect_80 (fun H locs hP hD hS => ?_)
                    have hP : va_P (dC, dI) vwCl [(g0, .inr (1, [.int 0, .ref b1, .ref b2, .ref b3, .ref b4, .ref b5, .ref b6, .ref b7, .ref b8, .int ob, .int (co + 1), .int (nI T2.length)])), (b1, .inl (e1, 301, .inl kd)), (b2, .inl (e2, 301, .inl zs)), (b3, .inl (e3, 301, .inl od)), (b4, .inl (e4, 12040, .inl lk)), (b5, .inl (e5, 12040, .inr (.inl nu))), (b6, .inl (e6, 301, .inl rb)), (b7, .inl (e7, 16, .inl rg)), (b8, .inl (e8, 301, .inl td))] H := hP
                    have hD : va_D A [(g0, .inr (1, [.int 0, .ref b1, .ref b2, .ref b3, .ref b4, .ref b5, .ref b6, .ref b7, .ref b8, .int ob, .int (co + 1), .int (nI T2.length)])), (b1, .inl (e1, 301, .inl kd)), (b2, .inl (e2, 301, .inl zs)), (b3, .inl (e3, 301, .inl od)), (b4, .inl (e4, 12040, .inl lk)), (b5, .inl (e5, 12040, .inr (.inl nu))), (b6, .inl (e6, 301, .inl rb)), (b7, .inl (e7, 16, .inl rg)), (b8, .inl (e8, 301, .inl td))] := hD
                    refine lv_aload_n hx hb dX1_collect_83 rfl (lv_at hl 0 rfl) ?_
                    refine va_get (D := (dC, dI)) (ci := 1) (v := .ref b8) (C := RX1) (T := TX1) (N := 12) hx hb hts inX1 hown hK hP 0 rfl rfl 8 (by decide) (hts _ bw_fl_X1_33) (fun _ h9 => h9) rfl dX1_collect_84 ?_
                    refine lv_aload_n hx hb dX1_collect_87 rfl (lv_at hl 0 rfl) ?_
                    refine va_get (D := (dC, dI)) (ci := 1) (v := .int (nI T2.length)) (C := RX1) (T := TX1) (N := 12) hx hb hts inX1 hown hK hP 0 rfl rfl 11 (by decide) (hts _ bw_fl_X1_47) (fun _ h9 => h9) rfl dX1_collect_88 ?_
                    refine hw_iald (j := T2.length) hx hb hK hP 8 7 rfl rfl (rfl) (hl9) (by decide) dX1_collect_91 ?_
                    refine hw_topi (y := nI o) (hpop.2.1) ?_
                    refine lv_istore_n hx hb dX1_collect_92 rfl hl (by decide) rfl (fun ls hl => ?_)
                    have hl : lv_has ls 5 [(1, .int (nI o)), (0, .ref g0)] := hl
                    refine lv_iconst (v := 0) hx hb dX1_collect_93 (by decide) ?_
                    refine hw_topi (y := nI 0) (nI_0.symm) ?_
                    refine lv_istore_n hx hb dX1_collect_94 rfl hl (by decide) rfl (fun ls hl => ?_)
                    have hl : lv_has ls 5 [(2, .int (nI 0)), (1, .int (nI o)), (0, .ref g0)] := hl
                    have loopD : ∀ (n8 : Nat) (i : Nat) (Sy : List Nat) (Ty : List Nat) (rb : Nat → Int32) (td : Nat → Int32) (tp : Int32) (H : Heap) (locs : List Loc) (ls : Array Slot), hp_z M o - i < n8 → (i ≤ hp_z M o ∧ hp_K M Sy Ty rb td tp ∧ hp_Y M Sy Ty o i ∧ hp_Yr M Sy 16 ∧ o ∈ Sy ∧ 2 * (300 - Sy.length) + Ty.length < n9) → va_P (dC, dI) vwCl [(g0, .inr (1, [.int 0, .ref b1, .ref b2, .ref b3, .ref b4, .ref b5, .ref b6, .ref b7, .ref b8, .int ob, .int (co + 1), .int tp])), (b1, .inl (e1, 301, .inl kd)), (b2, .inl (e2, 301, .inl zs)), (b3, .inl (e3, 301, .inl od)), (b4, .inl (e4, 12040, .inl lk)), (b5, .inl (e5, 12040, .inr (.inl nu))), (b6, .inl (e6, 301, .inl rb)), (b7, .inl (e7, 16, .inl rg)), (b8, .inl (e8, 301, .inl td))] H → va_D A [(g0, .inr (1, [.int 0, .ref b1, .ref b2, .ref b3, .ref b4, .ref b5, .ref b6, .ref b7, .ref b8, .int ob, .int (co + 1), .int tp])), (b1, .inl (e1, 301, .inl kd)), (b2, .inl (e2, 301, .inl zs)), (b3, .inl (e3, 301, .inl od)), (b4, .inl (e4, 12040, .inl lk)), (b5, .inl (e5, 12040, .inr (.inl nu))), (b6, .inl (e6, 301, .inl rb)), (b7, .inl (e7, 16, .inl rg)), (b8, .inl (e8, 301, .inl td))] → va_S A s.heap H locs → lv_has ls 5 [(2, .int (nI i)), (1, .int (nI o)), (0, .ref g0)] → W p l e (headSpec wsX1_collect ({ frames := 1, cells := 0, slots := 0, locals := 21 })).room s m args below meth c H locs 0 0 Q9 (F0 m 95 ls []) := by
                      intro n8
                      induction n8 with
                      | zero => intro i Sy Ty rb td tp H locs ls hm; exact absurd hm (Nat.not_lt_zero _)
                      | succ n8 ihD =>
                        intro i Sy Ty rb td tp H locs ls hm hI hP hD hS hl
                        have hlen2 := hp_K_len hW hI.2.1
                        refine lv_aload_n hx hb dX1_collect_95 rfl (lv_at hl 2 rfl) ?_
                        refine va_get (D := (dC, dI)) (ci := 1) (v := .ref b1) (C := RX1) (T := TX1) (N := 12) hx hb hts inX1 hown hK hP 0 rfl rfl 1 (by decide) (hts _ bw_fl_X1_7) (fun _ h9 => h9) rfl dX1_collect_96 ?_
                        refine lv_iload_n hx hb dX1_collect_99 rfl (lv_at hl 1 rfl) ?_
                        refine hw_iald (j := o) hx hb hK hP 1 0 rfl rfl (rfl) (by omega) (by decide) dX1_collect_100 ?_
                        refine hw_topi (y := nI (hp_k M o)) (hQ.2.2.2.1 o (by omega)) ?_
                        refine lv_iconst (v := 1) hx hb dX1_collect_101 (by decide) ?_
                        refine lv_icmp_ne hx hb dX1_collect_102 (tgt := 136) (by decide) (fun hc => ?_) (fun hc => ?_)
                        · have hex : hp_z M o ≤ i ∨ hp_k M o ≠ 1 ∨ o ∉ Sy := Or.inr (Or.inl (fun h9 => hc (by rw [h9]; decide)))
                          refine lv_goto hx hb dX1_collect_136 (tgt := 66) (by decide) ?_
                          exact ihC Sy Ty o i rb td tp H locs ls (hI.2.2.2.2.2) (⟨hI.2.1, hI.2.2.1, hex, hI.2.2.2.1⟩) hP hD hS (lv_sub hl [2] rfl)
                        · have hk1 : hp_k M o = 1 := (hp_k1 hW hoL (n := 1) (by decide)).mp hc
                          refine lv_iload_n hx hb dX1_collect_105 rfl (lv_at hl 0 rfl) ?_
                          refine lv_aload_n hx hb dX1_collect_106 rfl (lv_at hl 2 rfl) ?_
                          refine va_get (D := (dC, dI)) (ci := 1) (v := .ref b2) (C := RX1) (T := TX1) (N := 12) hx hb hts inX1 hown hK hP 0 rfl rfl 2 (by decide) (hts _ bw_fl_X1_13) (fun _ h9 => h9) rfl dX1_collect_107 ?_
                          refine lv_iload_n hx hb dX1_collect_110 rfl (lv_at hl 1 rfl) ?_
                          refine hw_iald (j := o) hx hb hK hP 2 1 rfl rfl (rfl) (by omega) (by decide) dX1_collect_111 ?_
                          refine hw_topi (y := nI (hp_z M o)) (hq9.1) ?_
                          refine lv_icmp_ge hx hb dX1_collect_112 (tgt := 136) (by decide) (fun hc => ?_) (fun hc => ?_)
                          · have hex : hp_z M o ≤ i ∨ hp_k M o ≠ 1 ∨ o ∉ Sy := Or.inl ((nI_leI (by omega) (by omega)).mp hc)
                            refine lv_goto hx hb dX1_collect_136 (tgt := 66) (by decide) ?_
                            exact ihC Sy Ty o i rb td tp H locs ls (hI.2.2.2.2.2) (⟨hI.2.1, hI.2.2.1, hex, hI.2.2.2.1⟩) hP hD hS (lv_sub hl [2] rfl)
                          · have hi : i < hp_z M o := Nat.lt_of_not_le (fun h9 => hc ((nI_leI (by omega) (by omega)).mpr h9))
                            refine lv_aload_n hx hb dX1_collect_115 rfl (lv_at hl 2 rfl) ?_
                            refine lv_aload_n hx hb dX1_collect_116 rfl (lv_at hl 2 rfl) ?_
                            refine va_get (D := (dC, dI)) (ci := 1) (v := .ref b4) (C := RX1) (T := TX1) (N := 12) hx hb hts inX1 hown hK hP 0 rfl rfl 4 (by decide) (hts _ bw_fl_X1_19) (fun _ h9 => h9) rfl dX1_collect_117 ?_
                            refine lv_bipush (v := 40) hx hb dX1_collect_120 (by decide) ?_
                            refine lv_iload_n hx hb dX1_collect_122 rfl (lv_at hl 1 rfl) ?_
                            refine lv_imul hx hb dX1_collect_123 ?_
                            refine lv_iload_n hx hb dX1_collect_124 rfl (lv_at hl 0 rfl) ?_
                            refine lv_iadd hx hb dX1_collect_125 ?_
                            refine hw_iald (j := 40 * o + i) hx hb hK hP 4 3 rfl rfl (hp_40i o i) (by omega) (by decide) dX1_collect_126 ?_
                            refine hw_topi (y := nI (hp_l M o i)) (hq9.2.1 (by omega) i hi) ?_
                            refine hw_callv (va_runV (As := [.int (nI (hp_l M o i))]) (rest := []) ⟨hx, hb, hml, hown, hts⟩ (c_X1_reach l dC dI g0 b1 b2 b3 b4 b5 b6 b7 b8 e1 e2 e3 e4 e5 e6 e7 e8 0 kd zs od lk nu rb rg td ob (co + 1) tp _ M hW Sy Ty hI.2.1 (hp_l M o i) (hW.2.2.2.2.1 o hoL (by omega) i hi)) (cwV 1 hts gw_X1_53 rfl rfl rfl ⟨rfl, by decide, by decide, by decide +kernel⟩ ⟨Nat.le_of_ble_eq_true rfl, Nat.le_of_ble_eq_true rfl⟩) ⟨hw_blind, va_recv (q0 := 0) (ci := 1) (q := (RX1, TX1, 12)) hK hP rfl rfl, hw_pay hP hK hD⟩ rfl rfl hl.1 rfl (lv_room (Nat.le_of_ble_eq_true rfl)) dX1_collect_127 ⟨by decide, by decide⟩) hD hS hA (fun u9 H locs hw hP hD hS => ?_)
                            obtain ⟨rb, td, tp⟩ := u9
                            have hP : va_P (dC, dI) vwCl [(g0, .inr (1, [.int 0, .ref b1, .ref b2, .ref b3, .ref b4, .ref b5, .ref b6, .ref b7, .ref b8, .int ob, .int (co + 1), .int tp])), (b1, .inl (e1, 301, .inl kd)), (b2, .inl (e2, 301, .inl zs)), (b3, .inl (e3, 301, .inl od)), (b4, .inl (e4, 12040, .inl lk)), (b5, .inl (e5, 12040, .inr (.inl nu))), (b6, .inl (e6, 301, .inl rb)), (b7, .inl (e7, 16, .inl rg)), (b8, .inl (e8, 301, .inl td))] H := hP
                            have hD : va_D A [(g0, .inr (1, [.int 0, .ref b1, .ref b2, .ref b3, .ref b4, .ref b5, .ref b6, .ref b7, .ref b8, .int ob, .int (co + 1), .int tp])), (b1, .inl (e1, 301, .inl kd)), (b2, .inl (e2, 301, .inl zs)), (b3, .inl (e3, 301, .inl od)), (b4, .inl (e4, 12040, .inl lk)), (b5, .inl (e5, 12040, .inr (.inl nu))), (b6, .inl (e6, 301, .inl rb)), (b7, .inl (e7, 16, .inl rg)), (b8, .inl (e8, 301, .inl td))] := hD
                            have hlen3 := hp_K_len hW hw
                            have hcost := hp_cost (T := Ty) (x := hp_l M o i) hlen3.1 hlen2.1
                            refine lv_iinc (k := 0) (v := nI (i + 1)) hx hb dX1_collect_130 hl rfl (nI_1 i) (by decide) rfl (fun ls hl => ?_)
                            have hl : lv_has ls 5 [(2, .int (nI (i + 1))), (1, .int (nI o)), (0, .ref g0)] := hl
                            refine lv_goto hx hb dX1_collect_133 (tgt := 95) (by decide) ?_
                            exact ihD (i + 1) (hp_nt Sy (hp_l M o i)) (hp_tt Sy Ty (hp_l M o i)) rb td tp H locs ls (by omega) (⟨hi, hw, hp_Y_s (hp_Y_reach hI.2.2.1 ((Classical.em (hp_l M o i = 0)).elim Or.inl (fun h9 => Or.inr (hp_R.step (hI.2.2.1.1 o hI.2.2.2.2.1) hk1 hi h9)))) (fun h9 => hp_nt_self h9), hp_Yr_up hI.2.2.2.1 (fun x hx => hp_nt_old hx), hp_nt_old hI.2.2.2.2.1, by omega⟩) hP hD hS (lv_sub hl [0, 1, 2] rfl)
                    exact loopD _ 0 Sx T2 rb td (nI T2.length) H locs ls (Nat.lt_succ_self _) (⟨Nat.zero_le _, hpop.1, hp_Y_pop hI.2.1 hI.2.2.1, hI.2.2.2, hpop.2.2.1, by simp only [List.length_append, List.length_cons, List.length_nil] at hm; omega⟩) hP hD hS (lv_sub hl [0, 1, 2] rfl)
              exact loopC _ Sx Tx 0 0 rb td tp H locs ls (Nat.lt_succ_self _) (⟨hI.2.1, hI.2.2.1, Or.inr (Or.inr (fun h9 => hp_in_pos hW (hI.2.1.2.2.2.1 0 h9) rfl)), hI.2.2.2⟩) hP hD hS (lv_sub hl [1] rfl)
            · have hk : k < 16 := Nat.lt_of_not_le (fun h9 => hc ((nI_leI (a := 16) (by decide) (by omega)).mpr h9))
              refine lv_aload_n hx hb dX1_collect_50 rfl (lv_at hl 1 rfl) ?_
              refine lv_aload_n hx hb dX1_collect_51 rfl (lv_at hl 1 rfl) ?_
              refine va_get (D := (dC, dI)) (ci := 1) (v := .ref b7) (C := RX1) (T := TX1) (N := 12) hx hb hts inX1 hown hK hP 0 rfl rfl 7 (by decide) (hts _ bw_fl_X1_30) (fun _ h9 => h9) rfl dX1_collect_52 ?_
              refine lv_iload_n hx hb dX1_collect_55 rfl (lv_at hl 0 rfl) ?_
              refine hw_iald (j := k) hx hb hK hP 7 6 rfl rfl (rfl) (hk) (by decide) dX1_collect_56 ?_
              refine hw_topi (y := nI (hp_r M k)) (hQ.2.2.1 k hk) ?_
              refine hw_callv (va_runV (As := [.int (nI (hp_r M k))]) (rest := []) ⟨hx, hb, hml, hown, hts⟩ (c_X1_reach l dC dI g0 b1 b2 b3 b4 b5 b6 b7 b8 e1 e2 e3 e4 e5 e6 e7 e8 0 kd zs od lk nu rb rg td ob (co + 1) tp _ M hW Sx Tx hI.2.1 (hp_r M k) (hW.2.2.2.1 k hk)) (cwV 1 hts gw_X1_53 rfl rfl rfl ⟨rfl, by decide, by decide, by decide +kernel⟩ ⟨Nat.le_of_ble_eq_true rfl, Nat.le_of_ble_eq_true rfl⟩) ⟨hw_blind, va_recv (q0 := 0) (ci := 1) (q := (RX1, TX1, 12)) hK hP rfl rfl, hw_pay hP hK hD⟩ rfl rfl hl.1 rfl (lv_room (Nat.le_of_ble_eq_true rfl)) dX1_collect_57 ⟨by decide, by decide⟩) hD hS hA (fun u9 H locs hw hP hD hS => ?_)
              obtain ⟨rb, td, tp⟩ := u9
              have hP : va_P (dC, dI) vwCl [(g0, .inr (1, [.int 0, .ref b1, .ref b2, .ref b3, .ref b4, .ref b5, .ref b6, .ref b7, .ref b8, .int ob, .int (co + 1), .int tp])), (b1, .inl (e1, 301, .inl kd)), (b2, .inl (e2, 301, .inl zs)), (b3, .inl (e3, 301, .inl od)), (b4, .inl (e4, 12040, .inl lk)), (b5, .inl (e5, 12040, .inr (.inl nu))), (b6, .inl (e6, 301, .inl rb)), (b7, .inl (e7, 16, .inl rg)), (b8, .inl (e8, 301, .inl td))] H := hP
              have hD : va_D A [(g0, .inr (1, [.int 0, .ref b1, .ref b2, .ref b3, .ref b4, .ref b5, .ref b6, .ref b7, .ref b8, .int ob, .int (co + 1), .int tp])), (b1, .inl (e1, 301, .inl kd)), (b2, .inl (e2, 301, .inl zs)), (b3, .inl (e3, 301, .inl od)), (b4, .inl (e4, 12040, .inl lk)), (b5, .inl (e5, 12040, .inr (.inl nu))), (b6, .inl (e6, 301, .inl rb)), (b7, .inl (e7, 16, .inl rg)), (b8, .inl (e8, 301, .inl td))] := hD
              refine lv_iinc (k := 0) (v := nI (k + 1)) hx hb dX1_collect_60 hl rfl (nI_1 k) (by decide) rfl (fun ls hl => ?_)
              have hl : lv_has ls 5 [(1, .int (nI (k + 1))), (0, .ref g0)] := hl
              refine lv_goto hx hb dX1_collect_63 (tgt := 44) (by decide) ?_
              exact ihB (k + 1) (hp_nt Sx (hp_r M k)) (hp_tt Sx Tx (hp_r M k)) rb td tp H locs ls (by omega) (⟨hk, hw, hp_Y_reach hI.2.2.1 ((Classical.em (hp_r M k = 0)).elim Or.inl (fun h9 => Or.inr (hp_R.reg hk h9))), hp_Yr_s (hp_Yr_up hI.2.2.2 (fun x hx => hp_nt_old hx)) (fun h9 => hp_nt_self h9)⟩) hP hD hS (lv_sub hl [0, 1] rfl)
        exact loopB _ 0 ([]) ([]) rb td (nI 0) H locs ls (Nat.lt_succ_self _) (⟨Nat.zero_le _, hp_K_0 (fun o h9 => hI.2 o (by omega)), hp_Y_0 M, fun r h9 => absurd h9 (Nat.not_lt_zero _)⟩) hP hD hS (lv_sub hl [0, 1] rfl)
      · have hk : k < 301 := Nat.lt_of_not_le (fun h9 => hc ((nI_ltI (a := 300) (by decide) (by omega)).mpr h9))
        refine lv_aload_n hx hb dX1_collect_24 rfl (lv_at hl 1 rfl) ?_
        refine va_get (D := (dC, dI)) (ci := 1) (v := .ref b6) (C := RX1) (T := TX1) (N := 12) hx hb hts inX1 hown hK hP 0 rfl rfl 6 (by decide) (hts _ bw_fl_X1_26) (fun _ h9 => h9) rfl dX1_collect_25 ?_
        refine lv_iload_n hx hb dX1_collect_28 rfl (lv_at hl 0 rfl) ?_
        refine lv_iconst (v := 0) hx hb dX1_collect_29 (by decide) ?_
        refine hw_zast (j := k) hx hb hK hP hD hS 6 5 rfl rfl (rfl) (hk) (by decide) (by decide) dX1_collect_30 (fun H locs hP hD hS => ?_)
        have hP : va_P (dC, dI) vwCl [(g0, .inr (1, [.int 0, .ref b1, .ref b2, .ref b3, .ref b4, .ref b5, .ref b6, .ref b7, .ref b8, .int ob, .int (co + 1), .int tp])), (b1, .inl (e1, 301, .inl kd)), (b2, .inl (e2, 301, .inl zs)), (b3, .inl (e3, 301, .inl od)), (b4, .inl (e4, 12040, .inl lk)), (b5, .inl (e5, 12040, .inr (.inl nu))), (b6, .inl (e6, 301, .inl (upd rb k 0))), (b7, .inl (e7, 16, .inl rg)), (b8, .inl (e8, 301, .inl td))] H := hP
        have hD : va_D A [(g0, .inr (1, [.int 0, .ref b1, .ref b2, .ref b3, .ref b4, .ref b5, .ref b6, .ref b7, .ref b8, .int ob, .int (co + 1), .int tp])), (b1, .inl (e1, 301, .inl kd)), (b2, .inl (e2, 301, .inl zs)), (b3, .inl (e3, 301, .inl od)), (b4, .inl (e4, 12040, .inl lk)), (b5, .inl (e5, 12040, .inr (.inl nu))), (b6, .inl (e6, 301, .inl (upd rb k 0))), (b7, .inl (e7, 16, .inl rg)), (b8, .inl (e8, 301, .inl td))] := hD
        refine lv_iinc (k := 0) (v := nI (k + 1)) hx hb dX1_collect_31 hl rfl (nI_1 k) (by decide) rfl (fun ls hl => ?_)
        have hl : lv_has ls 5 [(1, .int (nI (k + 1))), (0, .ref g0)] := hl
        refine lv_goto hx hb dX1_collect_34 (tgt := 17) (by decide) ?_
        exact ihA (k + 1) (upd rb k 0) H locs ls (by omega) (⟨hk, fun o h9 => by
            by_cases e9 : o = k
            · subst e9; exact pk_us
            · rw [pk_un e9]; exact hI.2 o (by omega)⟩) hP hD hS (lv_sub hl [0, 1] rfl)
  exact loopA _ 0 rb H locs ls (Nat.lt_succ_self _) (⟨Nat.zero_le _, fun o h9 => absurd h9 (Nat.not_lt_zero _)⟩) hP hD hS (lv_sub hl [0, 1] rfl)
