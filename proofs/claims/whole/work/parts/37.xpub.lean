set_option maxHeartbeats 4000000 in
set_option maxRecDepth 100000 in
theorem c_X0_state (l : Launch) (dC : Nat → ClassId) (dI : Nat → Nat → Nat) (h0 a1 a2 a3 a4 : Nat) (c1 c2 c3 c4 : ClassId) (ce : Nat → Int64) (rg : Nat → Int32) (tk ob co : Int32) (re : Nat → Int32) (rc : Int32) (np : Nat → Int32) (sz : Nat) (M : hp_S) (hW : hp_W M) (hC : hp_C M ce rg tk ob co) (j w : Nat) (hj : j < 16) (hw : w < 3) : Met l yX0_state wsX0_state ({ frames := 2, cells := 0, slots := 0, locals := 41 }) (va_Pc [.ref h0, .int (nI j), .int (nI w)] (hw_pre (dC, dI) vwCl [(c1, .long), (c2, .int), (c3, .int), (c4, .int)] [(h0, .inr (0, [.ref a1, .ref a2, .int tk, .int ob, .int co, .ref a3, .int rc, .ref a4])), (a1, .inl (c1, 300, .inr (.inl ce))), (a2, .inl (c2, 16, .inl rg)), (a3, .inl (c3, 300, .inl re)), (a4, .inl (c4, 300, .inl np))] sz)) (QcRead (hp_st M (hp_r M j) w)) 0 0 (fun _ => False) := by
  refine Met.ofW (cc := cX0_state) (maxL := 4) (ret := some .int) (by decide) rfl ?_
  intro p e s m args below meth c s₁ B hml hv
  obtain ⟨rfl, hsz, hP, hK, hD0⟩ := hv
  have hx := B.exec
  have hb := B.bytes
  have hr := B.returns
  have hts : ∀ w ∈ wb, w.before _ s = true := fun w h => atoms_spec (ws := wsX0_state) B.pre w (List.mem_cons_of_mem _ h)
  have hown : s.vm.findClass RX0 = some m.cls := findClass_of_methodNamed B.named
  have hlocks := B.notSynchronized
  subst hsz
  have hD := hD0
  have hl := lv_entry ([.ref h0, .int (nI j), .int (nI w)]) (n := 4) (Nat.le_of_ble_eq_true rfl)
  rw [lg_entry_eq]
  generalize (lg_sl ([.ref h0, .int (nI j), .int (nI w)]) ++ List.replicate (4 - (lg_sl ([.ref h0, .int (nI j), .int (nI w)])).length) Slot.unset).toArray = ls at hl ⊢
  have hl : lv_has ls 4 [(0, .ref h0), (1, .int (nI j)), (2, .int (nI w))] := hl
  refine lv_iload_n hx hb dX0_state_0 rfl (lv_at hl 1 rfl) ?_
  refine hw_callN (W.runS (As := [.int (nI j)]) (rest := []) ⟨hx, hb, hml, hown, hts⟩ (c_X0_checkRegister l (hp_ok2 hj (by decide))) (va_cwS 1 hts gw_X0_42 rfl rfl rfl ⟨by decide, by decide, by decide +kernel⟩ ⟨Nat.le_of_ble_eq_true rfl, Nat.le_of_ble_eq_true rfl⟩) preEq rfl rfl hl.1 rfl (lv_room (Nat.le_of_ble_eq_true rfl)) dX0_state_1 ⟨by decide, by decide⟩) ?_
  refine lv_iload_n hx hb dX0_state_4 rfl (lv_at hl 2 rfl) ?_
  refine lv_iconst (v := 3) hx hb dX0_state_5 (by decide) ?_
  refine hw_callN (W.runS (As := [.int (nI w), .int 3]) (rest := []) ⟨hx, hb, hml, hown, hts⟩ (c_X0_checkBelow l (hp_ok2 hw (by decide))) (va_cwS 2 hts gw_X0_46 rfl rfl rfl ⟨by decide, by decide, by decide +kernel⟩ ⟨Nat.le_of_ble_eq_true rfl, Nat.le_of_ble_eq_true rfl⟩) preEq rfl rfl hl.1 rfl (lv_room (Nat.le_of_ble_eq_true rfl)) dX0_state_6 ⟨by decide, by decide⟩) ?_
  refine lv_aload_n hx hb dX0_state_9 rfl (lv_at hl 0 rfl) ?_
  refine va_get (D := (dC, dI)) (ci := 0) (v := .ref a2) (C := RX0) (T := TX0) (N := 8) hx hb hts inX0 hown hK hP 0 rfl rfl 1 (by decide) (hts _ bw_fl_X0_13) (fun _ h9 => h9) rfl dX0_state_10 ?_
  refine lv_iload_n hx hb dX0_state_13 rfl (lv_at hl 1 rfl) ?_
  refine hw_iald (j := j) hx hb hK hP 2 1 rfl rfl (rfl) (hj) (by decide) dX0_state_14 ?_
  refine hw_topi (y := hp_e M (hp_r M j)) (hC.2.2.2.1 j hj) ?_
  refine lv_istore_n hx hb dX0_state_15 rfl hl (by decide) rfl (fun ls hl => ?_)
  have hl : lv_has ls 4 [(3, .int (hp_e M (hp_r M j))), (0, .ref h0), (1, .int (nI j)), (2, .int (nI w))] := hl
  refine lv_iload_n hx hb dX0_state_16 rfl (lv_at hl 3 rfl) ?_
  refine lv_if_ne hx hb dX0_state_17 (tgt := 35) (by decide) (fun hc => ?_) (fun hc => ?_)
  · have hw0 : ¬ w = 0 := fun h9 => hc (by rw [h9]; exact nI_0)
    refine lv_iload_n hx hb dX0_state_35 rfl (lv_at hl 0 rfl) ?_
    refine lv_iconst (v := (-1)) hx hb dX0_state_36 (by decide) ?_
    refine lv_icmp_ne hx hb dX0_state_37 (tgt := 42) (by decide) (fun hc => ?_) (fun hc => ?_)
    · have h00 : hp_r M j ≠ 0 := fun h9 => hc ((hp_null hW (hW.2.2.2.1 j hj)).mpr h9)
      have hoL := (hW.2.2.2.1 j hj).resolve_left h00
      have hcell := hC.2.2.2.2 _ hoL
      have hlt := hp_pl_lt hW hoL
      refine lv_iload_n hx hb dX0_state_42 rfl (lv_at hl 3 rfl) ?_
      refine lv_iconst (v := 1) hx hb dX0_state_43 (by decide) ?_
      refine lv_icmp_ne hx hb dX0_state_44 (tgt := 51) (by decide) (fun hc => ?_) (fun hc => ?_)
      · have hw1 : ¬ w = 1 := fun h9 => hc (by rw [h9]; decide)
        refine lv_aload_n hx hb dX0_state_51 rfl (lv_at hl 1 rfl) ?_
        refine lv_iload_n hx hb dX0_state_52 rfl (lv_at hl 0 rfl) ?_
        refine hw_topi (y := nI (hp_pl M (hp_r M j))) (hp_en h00) ?_
        refine W.callR (W.runV (As := [.int (nI (hp_pl M (hp_r M j)))]) (rest := []) ⟨hx, hb, hml, hown, hts⟩ (c_X0_lengthAt l dC dI h0 a1 a2 a3 a4 c1 c2 c3 c4 ce rg tk ob co re rc np _ (by omega)) (cwV 1 hts gw_X0_67 rfl rfl rfl ⟨rfl, by decide, by decide, by decide +kernel⟩ ⟨Nat.le_of_ble_eq_true rfl, Nat.le_of_ble_eq_true rfl⟩) ⟨hw_blind, va_recv (q0 := 0) (ci := 0) (q := (RX0, TX0, 8)) hK hP rfl rfl, hw_pay hP hK hD⟩ rfl rfl hl.1 rfl (lv_room (Nat.le_of_ble_eq_true rfl)) dX0_state_53 ⟨by decide, by decide⟩) ?_
        refine W.eq (g2 := F0 m 56 ls [.int ((ce (hp_pl M (hp_r M j))).toInt32 >>> ((2 : Int32) &&& 31))]) rfl ?_
        refine hw_topi (y := hp_st M (hp_r M j) w) (by unfold hp_st; rw [if_neg hw0, if_neg h00, if_neg hw1]; exact hp_rlen hW hoL hcell.1) ?_
        exact W.iret (v := (hp_st M (hp_r M j) w)) hx hb hr (fun t ht hW => ⟨rfl, ht⟩) (fun q h => nomatch h) dX0_state_56
      · have hw1 : w = 1 := (nI_eq (b := 1) (by omega) (by decide)).mp hc
        refine lv_iload_n hx hb dX0_state_47 rfl (lv_at hl 0 rfl) ?_
        refine lv_goto hx hb dX0_state_48 (tgt := 56) (by decide) ?_
        refine hw_topi (y := hp_st M (hp_r M j) w) (by unfold hp_st; rw [if_neg hw0, if_neg h00, if_pos hw1]; exact hp_en h00) ?_
        exact W.iret (v := (hp_st M (hp_r M j) w)) hx hb hr (fun t ht hW => ⟨rfl, ht⟩) (fun q h => nomatch h) dX0_state_56
    · have h00 : hp_r M j = 0 := (hp_null hW (hW.2.2.2.1 j hj)).mp hc
      refine lv_iconst (v := (-1)) hx hb dX0_state_40 (by decide) ?_
      refine hw_topi (y := hp_st M (hp_r M j) w) (by unfold hp_st; rw [if_neg hw0, if_pos h00]) ?_
      exact W.iret (v := (hp_st M (hp_r M j) w)) hx hb hr (fun t ht hW => ⟨rfl, ht⟩) (fun q h => nomatch h) dX0_state_41
  · have hw0 : w = 0 := (nI_eq (b := 0) (by omega) (by decide)).mp (hc.trans nI_0.symm)
    refine lv_iload_n hx hb dX0_state_20 rfl (lv_at hl 0 rfl) ?_
    refine lv_iconst (v := (-1)) hx hb dX0_state_21 (by decide) ?_
    refine lv_icmp_ne hx hb dX0_state_22 (tgt := 29) (by decide) (fun hc => ?_) (fun hc => ?_)
    · have h00 : hp_r M j ≠ 0 := fun h9 => hc ((hp_null hW (hW.2.2.2.1 j hj)).mpr h9)
      have hoL := (hW.2.2.2.1 j hj).resolve_left h00
      have hcell := hC.2.2.2.2 _ hoL
      have hlt := hp_pl_lt hW hoL
      refine lv_aload_n hx hb dX0_state_29 rfl (lv_at hl 1 rfl) ?_
      refine lv_iload_n hx hb dX0_state_30 rfl (lv_at hl 0 rfl) ?_
      refine hw_topi (y := nI (hp_pl M (hp_r M j))) (hp_en h00) ?_
      refine W.callR (W.runV (As := [.int (nI (hp_pl M (hp_r M j)))]) (rest := []) ⟨hx, hb, hml, hown, hts⟩ (c_X0_kindAt l dC dI h0 a1 a2 a3 a4 c1 c2 c3 c4 ce rg tk ob co re rc np _ (by omega)) (cwV 1 hts gw_X0_59 rfl rfl rfl ⟨rfl, by decide, by decide, by decide +kernel⟩ ⟨Nat.le_of_ble_eq_true rfl, Nat.le_of_ble_eq_true rfl⟩) ⟨hw_blind, va_recv (q0 := 0) (ci := 0) (q := (RX0, TX0, 8)) hK hP rfl rfl, hw_pay hP hK hD⟩ rfl rfl hl.1 rfl (lv_room (Nat.le_of_ble_eq_true rfl)) dX0_state_31 ⟨by decide, by decide⟩) ?_
      refine W.eq (g2 := F0 m 34 ls [.int ((ce (hp_pl M (hp_r M j))).toInt32 &&& 3)]) rfl ?_
      refine hw_topi (y := hp_st M (hp_r M j) w) (by unfold hp_st; rw [if_pos hw0, if_neg h00]; exact hp_rkind hW hoL hcell.1) ?_
      exact W.iret (v := (hp_st M (hp_r M j) w)) hx hb hr (fun t ht hW => ⟨rfl, ht⟩) (fun q h => nomatch h) dX0_state_34
    · have h00 : hp_r M j = 0 := (hp_null hW (hW.2.2.2.1 j hj)).mp hc
      refine lv_iconst (v := 0) hx hb dX0_state_25 (by decide) ?_
      refine lv_goto hx hb dX0_state_26 (tgt := 34) (by decide) ?_
      refine hw_topi (y := hp_st M (hp_r M j) w) (by unfold hp_st; rw [if_pos hw0, if_pos h00]) ?_
      exact W.iret (v := (hp_st M (hp_r M j) w)) hx hb hr (fun t ht hW => ⟨rfl, ht⟩) (fun q h => nomatch h) dX0_state_34

set_option maxHeartbeats 4000000 in
set_option maxRecDepth 100000 in
theorem x_X0_state (l : Launch) (dC : Nat → ClassId) (dI : Nat → Nat → Nat) (h0 a1 a2 a3 a4 : Nat) (c1 c2 c3 c4 : ClassId) (ce : Nat → Int64) (rg : Nat → Int32) (tk ob co : Int32) (re : Nat → Int32) (rc : Int32) (np : Nat → Int32) (sz : Nat) (hl9 : l.stackTraces = false) (r x : Int32) (hbad : hp_bad r 16 ∨ hp_bad x 3) : vx_Met l yX0_state wsX0_state ({ frames := 8, cells := 1, slots := 6, locals := 131 }) (va_Pc [.ref h0, .int r, .int x] (hx_pre (dC, dI) vwCl [(c1, .long), (c2, .int), (c3, .int), (c4, .int)] [(h0, .inr (0, [.ref a1, .ref a2, .int tk, .int ob, .int co, .ref a3, .int rc, .ref a4])), (a1, .inl (c1, 300, .inr (.inl ce))), (a2, .inl (c2, 16, .inl rg)), (a3, .inl (c3, 300, .inl re)), (a4, .inl (c4, 300, .inl np))] sz)) (fun _ _ _ _ => False) (vx_X (fun _ : Unit => True) (fun E u t => (fun (E : String) (_ : Unit) => E = hz_A) E u ∧ hw_B (dC, dI) vwCl [(c1, .long), (c2, .int), (c3, .int), (c4, .int)] (va_A [(h0, .inr (0, [.ref a1, .ref a2, .int tk, .int ob, .int co, .ref a3, .int rc, .ref a4])), (a1, .inl (c1, 300, .inr (.inl ce))), (a2, .inl (c2, 16, .inl rg)), (a3, .inl (c3, 300, .inl re)), (a4, .inl (c4, 300, .inl np))] sz) ((fun _ : Unit => [(h0, .inr (0, [.ref a1, .ref a2, .int tk, .int ob, .int co, .ref a3, .int rc, .ref a4])), (a1, .inl (c1, 300, .inr (.inl ce))), (a2, .inl (c2, 16, .inl rg)), (a3, .inl (c3, 300, .inl re)), (a4, .inl (c4, 300, .inl np))]) u) t) (va_A [(h0, .inr (0, [.ref a1, .ref a2, .int tk, .int ob, .int co, .ref a3, .int rc, .ref a4])), (a1, .inl (c1, 300, .inr (.inl ce))), (a2, .inl (c2, 16, .inl rg)), (a3, .inl (c3, 300, .inl re)), (a4, .inl (c4, 300, .inl np))] sz)) 1 6 (va_A [(h0, .inr (0, [.ref a1, .ref a2, .int tk, .int ob, .int co, .ref a3, .int rc, .ref a4])), (a1, .inl (c1, 300, .inr (.inl ce))), (a2, .inl (c2, 16, .inl rg)), (a3, .inl (c3, 300, .inl re)), (a4, .inl (c4, 300, .inl np))] sz) := by
  refine vx_ofW (cc := cX0_state) (maxL := 4) (ret := some .int) (by decide) rfl ?_
  intro p e s m args below meth c s₁ B hml hEx hv
  obtain ⟨hargs, hsz, hP, hK, hD0, hZ⟩ := hv
  have hx := B.exec
  have hb := B.bytes
  have hr := B.returns
  have hts : ∀ w ∈ wb, w.before _ s = true := fun w h => atoms_spec (ws := wsX0_state) B.pre w (List.mem_cons_of_mem _ h)
  have hown : s.vm.findClass RX0 = some m.cls := findClass_of_methodNamed B.named
  have hlocks := B.notSynchronized
  subst hsz
  have hD := hD0.self (sz := s.heap.size)
  generalize hAe : va_A [(h0, .inr (0, [.ref a1, .ref a2, .int tk, .int ob, .int co, .ref a3, .int rc, .ref a4])), (a1, .inl (c1, 300, .inr (.inl ce))), (a2, .inl (c2, 16, .inl rg)), (a3, .inl (c3, 300, .inl re)), (a4, .inl (c4, 300, .inl np))] s.heap.size = A at hD hZ ⊢
  have hA : ∀ q : Nat, s.heap.size ≤ q → A q := fun q h => by rw [← hAe]; exact Or.inr h
  have hS : va_S A s.heap s.heap [] := va_S.rf
  generalize hQ9 : vx_MQ below (fun _ _ _ _ => False) (vx_X (fun _ : Unit => True) (fun E u t => (fun (E : String) (_ : Unit) => E = hz_A) E u ∧ hw_B (dC, dI) vwCl [(c1, .long), (c2, .int), (c3, .int), (c4, .int)] A ((fun _ : Unit => [(h0, .inr (0, [.ref a1, .ref a2, .int tk, .int ob, .int co, .ref a3, .int rc, .ref a4])), (a1, .inl (c1, 300, .inr (.inl ce))), (a2, .inl (c2, 16, .inl rg)), (a3, .inl (c3, 300, .inl re)), (a4, .inl (c4, 300, .inl np))]) u) t) A) args s 1 6 A = Q9
  have hl := lv_entry ([.ref h0, .int r, .int x]) (n := 4) (Nat.le_of_ble_eq_true rfl)
  rw [show entryFrame m args 4 = _ from (congrArg (fun z => entryFrame m z 4) hargs).trans (lg_entry_eq m [.ref h0, .int r, .int x] 4)]
  generalize (lg_sl ([.ref h0, .int r, .int x]) ++ List.replicate (4 - (lg_sl ([.ref h0, .int r, .int x])).length) Slot.unset).toArray = ls at hl ⊢
  have hl : lv_has ls 4 [(0, .ref h0), (1, .int r), (2, .int x)] := hl
  obtain ⟨H, hH⟩ : ∃ H, H = s.heap := ⟨_, rfl⟩
  rw [← hH] at hP
  have hS : va_S A s.heap H [] := by rw [hH]; exact hS
  rw [← hH]
  generalize ([] : List Loc) = locs at hS ⊢
  refine lv_iload_n hx hb dX0_state_0 rfl (lv_at hl 1 rfl) ?_
  by_cases hr1 : hp_bad r 16
  · skip
    refine hx_throws (vx_runS (As := [.int r]) (rest := []) ⟨hx, hb, hml, hown, hts⟩ (x_X0_checkRegister l hl9 dC dI _ hr1) (va_cwS 1 hts gw_X0_42 rfl rfl rfl ⟨by decide, by decide, by decide +kernel⟩ ⟨Nat.le_of_ble_eq_true rfl, Nat.le_of_ble_eq_true rfl⟩) ⟨hx_blind, hx_pay hx_P0 (hK.sub (tys' := []) [] rfl) hx_D0 hS hA hZ⟩ rfl rfl hl.1 rfl (lv_room (Nat.le_of_ble_eq_true rfl)) dX0_state_1 ⟨by decide, by decide⟩) hP hS hA (fun E ce9 q9 H locs hb9 hP hS h1 h2 h3 => ?_)
    subst hQ9
    exact vx_out (fun x hx => (hEx x hx).elim) hlocks h1 h2 h3 (fun t ht ha => ⟨(), trivial, ⟨hb9, by rw [ht]; exact hP, va_K.moved ha hK, hD⟩, hS.F ht⟩) hS.2.2 (Nat.le_of_ble_eq_true rfl) (Nat.le_of_ble_eq_true rfl)
  · skip
    refine hw_callN (W.runS (As := [.int r]) (rest := []) ⟨hx, hb, hml, hown, hts⟩ (c_X0_checkRegister l hr1) (va_cwS 1 hts gw_X0_42 rfl rfl rfl ⟨by decide, by decide, by decide +kernel⟩ ⟨Nat.le_of_ble_eq_true rfl, Nat.le_of_ble_eq_true rfl⟩) preEq rfl rfl hl.1 rfl (lv_room (Nat.le_of_ble_eq_true rfl)) dX0_state_1 ⟨by decide, by decide⟩) ?_
    refine lv_iload_n hx hb dX0_state_4 rfl (lv_at hl 2 rfl) ?_
    refine lv_iconst (v := 3) hx hb dX0_state_5 (by decide) ?_
    refine hx_throws (vx_runS (As := [.int x, .int 3]) (rest := []) ⟨hx, hb, hml, hown, hts⟩ (x_X0_checkBelow l hl9 dC dI _ (hbad.resolve_left hr1)) (va_cwS 2 hts gw_X0_46 rfl rfl rfl ⟨by decide, by decide, by decide +kernel⟩ ⟨Nat.le_of_ble_eq_true rfl, Nat.le_of_ble_eq_true rfl⟩) ⟨hx_blind, hx_pay hx_P0 (hK.sub (tys' := []) [] rfl) hx_D0 hS hA hZ⟩ rfl rfl hl.1 rfl (lv_room (Nat.le_of_ble_eq_true rfl)) dX0_state_6 ⟨by decide, by decide⟩) hP hS hA (fun E ce9 q9 H locs hb9 hP hS h1 h2 h3 => ?_)
    subst hQ9
    exact vx_out (fun x hx => (hEx x hx).elim) hlocks h1 h2 h3 (fun t ht ha => ⟨(), trivial, ⟨hb9, by rw [ht]; exact hP, va_K.moved ha hK, hD⟩, hS.F ht⟩) hS.2.2 (Nat.le_of_ble_eq_true rfl) (Nat.le_of_ble_eq_true rfl)

set_option maxHeartbeats 4000000 in
set_option maxRecDepth 100000 in
theorem c_X0_count (l : Launch) (dC : Nat → ClassId) (dI : Nat → Nat → Nat) (h0 a1 a2 a3 a4 : Nat) (c1 c2 c3 c4 : ClassId) (ce : Nat → Int64) (rg : Nat → Int32) (tk ob co : Int32) (re : Nat → Int32) (rc : Int32) (np : Nat → Int32) (sz : Nat) (M : hp_S) (hW : hp_W M) (hC : hp_C M ce rg tk ob co) (x : Int32) : Met l yX0_count wsX0_count ({ frames := 0, cells := 0, slots := 0, locals := 0 }) (va_Pc [.ref h0, .int x] (hw_pre (dC, dI) vwCl [(c1, .long), (c2, .int), (c3, .int), (c4, .int)] [(h0, .inr (0, [.ref a1, .ref a2, .int tk, .int ob, .int co, .ref a3, .int rc, .ref a4])), (a1, .inl (c1, 300, .inr (.inl ce))), (a2, .inl (c2, 16, .inl rg)), (a3, .inl (c3, 300, .inl re)), (a4, .inl (c4, 300, .inl np))] sz)) (QcRead (hp_ct M x)) 0 0 (fun _ => False) := by
  refine Met.ofW (cc := cX0_count) (maxL := 2) (ret := some .int) (by decide) rfl ?_
  intro p e s m args below meth c s₁ B hml hv
  obtain ⟨rfl, hsz, hP, hK, hD0⟩ := hv
  have hx := B.exec
  have hb := B.bytes
  have hr := B.returns
  have hts : ∀ w ∈ wb, w.before _ s = true := fun w h => atoms_spec (ws := wsX0_count) B.pre w (List.mem_cons_of_mem _ h)
  have hown : s.vm.findClass RX0 = some m.cls := findClass_of_methodNamed B.named
  have hlocks := B.notSynchronized
  subst hsz
  have hD := hD0
  have hl := lv_entry ([.ref h0, .int x]) (n := 2) (Nat.le_of_ble_eq_true rfl)
  rw [lg_entry_eq]
  generalize (lg_sl ([.ref h0, .int x]) ++ List.replicate (2 - (lg_sl ([.ref h0, .int x])).length) Slot.unset).toArray = ls at hl ⊢
  have hl : lv_has ls 2 [(0, .ref h0), (1, .int x)] := hl
  refine lv_iload_n hx hb dX0_count_0 rfl (lv_at hl 1 rfl) ?_
  rcases (show x = 0 ∨ x = 1 ∨ x = 2 ∨ (¬ x = 0 ∧ ¬ x = 1 ∧ ¬ x = 2) from by
      by_cases e0 : x = 0
      · exact Or.inl e0
      · by_cases e1 : x = 1
        · exact Or.inr (Or.inl e1)
        · by_cases e2 : x = 2
          · exact Or.inr (Or.inr (Or.inl e2))
          · exact Or.inr (Or.inr (Or.inr ⟨e0, e1, e2⟩))) with e0 | e1 | e2 | ⟨e0, e1, e2⟩
  · skip
    subst e0
    refine lv_tableIn (off := 27) (tgt := 28) hx hb dX0_count_1 (by decide) (by decide) (by decide) (by decide) ?_
    refine lv_aload_n hx hb dX0_count_28 rfl (lv_at hl 0 rfl) ?_
    refine va_get (D := (dC, dI)) (ci := 0) (v := .int tk) (C := RX0) (T := TX0) (N := 8) hx hb hts inX0 hown hK hP 0 rfl rfl 2 (by decide) (hts _ bw_fl_X0_17) (fun _ h9 => h9) rfl dX0_count_29 ?_
    refine hw_topi (y := hp_ct M 0) (by unfold hp_ct; rw [if_pos rfl]; exact hC.1) ?_
    exact W.iret (v := (hp_ct M 0)) hx hb hr (fun t ht hW => ⟨rfl, ht⟩) (fun q h => nomatch h) dX0_count_32
  · skip
    subst e1
    refine lv_tableIn (off := 32) (tgt := 33) hx hb dX0_count_1 (by decide) (by decide) (by decide) (by decide) ?_
    refine lv_aload_n hx hb dX0_count_33 rfl (lv_at hl 0 rfl) ?_
    refine va_get (D := (dC, dI)) (ci := 0) (v := .int ob) (C := RX0) (T := TX0) (N := 8) hx hb hts inX0 hown hK hP 0 rfl rfl 3 (by decide) (hts _ bw_fl_X0_21) (fun _ h9 => h9) rfl dX0_count_34 ?_
    refine hw_topi (y := hp_ct M 1) (by unfold hp_ct; rw [if_neg (by decide), if_pos rfl]; exact hC.2.1) ?_
    exact W.iret (v := (hp_ct M 1)) hx hb hr (fun t ht hW => ⟨rfl, ht⟩) (fun q h => nomatch h) dX0_count_37
  · skip
    subst e2
    refine lv_tableIn (off := 37) (tgt := 38) hx hb dX0_count_1 (by decide) (by decide) (by decide) (by decide) ?_
    refine lv_aload_n hx hb dX0_count_38 rfl (lv_at hl 0 rfl) ?_
    refine va_get (D := (dC, dI)) (ci := 0) (v := .int co) (C := RX0) (T := TX0) (N := 8) hx hb hts inX0 hown hK hP 0 rfl rfl 4 (by decide) (hts _ bw_fl_X0_24) (fun _ h9 => h9) rfl dX0_count_39 ?_
    refine hw_topi (y := hp_ct M 2) (by unfold hp_ct; rw [if_neg (by decide), if_neg (by decide), if_pos rfl]; exact hC.2.2.1) ?_
    exact W.iret (v := (hp_ct M 2)) hx hb hr (fun t ht hW => ⟨rfl, ht⟩) (fun q h => nomatch h) dX0_count_42
  · skip
    refine lv_tableOut (tgt := 43) hx hb dX0_count_1 (hp_sw e0 e1 e2) (by decide) ?_
    refine lv_iconst (v := (-1)) hx hb dX0_count_43 (by decide) ?_
    refine hw_topi (y := hp_ct M x) (by unfold hp_ct; rw [if_neg e0, if_neg e1, if_neg e2]) ?_
    exact W.iret (v := (hp_ct M x)) hx hb hr (fun t ht hW => ⟨rfl, ht⟩) (fun q h => nomatch h) dX0_count_44

set_option maxHeartbeats 4000000 in
set_option maxRecDepth 100000 in
theorem c_X0_collect (l : Launch) (dC : Nat → ClassId) (dI : Nat → Nat → Nat) (h0 a1 a2 a3 a4 : Nat) (c1 c2 c3 c4 : ClassId) (ce : Nat → Int64) (rg : Nat → Int32) (tk ob co : Int32) (re : Nat → Int32) (rc : Int32) (np : Nat → Int32) (sz : Nat) (M : hp_S) (hW : hp_W M) (hC : hp_C M ce rg tk ob co) : Met l yX0_collect wsX0_collect ({ frames := 5, cells := 0, slots := 0, locals := 111 }) (va_Pc [.ref h0] (hw_pre (dC, dI) vwCl [(c1, .long), (c2, .int), (c3, .int), (c4, .int)] [(h0, .inr (0, [.ref a1, .ref a2, .int tk, .int ob, .int co, .ref a3, .int rc, .ref a4])), (a1, .inl (c1, 300, .inr (.inl ce))), (a2, .inl (c2, 16, .inl rg)), (a3, .inl (c3, 300, .inl re)), (a4, .inl (c4, 300, .inl np))] sz)) (va_Qi (fun (r : Int32) (u : (Nat → Int64) × (Nat → Int32) × Int32 × Int32 × Int32 × (Nat → Int32) × Int32 × (Nat → Int32)) => r = nI (hp_L M).length - nI (hp_L (hp_col M)).length ∧ hp_C (hp_col M) u.1 u.2.1 u.2.2.1 u.2.2.2.1 u.2.2.2.2.1) (fun u t => hw_B (dC, dI) vwCl [(c1, .long), (c2, .int), (c3, .int), (c4, .int)] (va_A [(h0, .inr (0, [.ref a1, .ref a2, .int tk, .int ob, .int co, .ref a3, .int rc, .ref a4])), (a1, .inl (c1, 300, .inr (.inl ce))), (a2, .inl (c2, 16, .inl rg)), (a3, .inl (c3, 300, .inl re)), (a4, .inl (c4, 300, .inl np))] sz) ((fun u : (Nat → Int64) × (Nat → Int32) × Int32 × Int32 × Int32 × (Nat → Int32) × Int32 × (Nat → Int32) => [(h0, .inr (0, [.ref a1, .ref a2, .int u.2.2.1, .int u.2.2.2.1, .int u.2.2.2.2.1, .ref a3, .int u.2.2.2.2.2.2.1, .ref a4])), (a1, .inl (c1, 300, .inr (.inl u.1))), (a2, .inl (c2, 16, .inl u.2.1)), (a3, .inl (c3, 300, .inl u.2.2.2.2.2.1)), (a4, .inl (c4, 300, .inl u.2.2.2.2.2.2.2))]) u) t) (va_A [(h0, .inr (0, [.ref a1, .ref a2, .int tk, .int ob, .int co, .ref a3, .int rc, .ref a4])), (a1, .inl (c1, 300, .inr (.inl ce))), (a2, .inl (c2, 16, .inl rg)), (a3, .inl (c3, 300, .inl re)), (a4, .inl (c4, 300, .inl np))] sz)) 0 0 (va_A [(h0, .inr (0, [.ref a1, .ref a2, .int tk, .int ob, .int co, .ref a3, .int rc, .ref a4])), (a1, .inl (c1, 300, .inr (.inl ce))), (a2, .inl (c2, 16, .inl rg)), (a3, .inl (c3, 300, .inl re)), (a4, .inl (c4, 300, .inl np))] sz) := by
  refine Met.ofW (cc := cX0_collect) (maxL := 2) (ret := some .int) (by decide) rfl ?_
  intro p e s m args below meth c s₁ B hml hv
  obtain ⟨hargs, hsz, hP, hK, hD0⟩ := hv
  have hx := B.exec
  have hb := B.bytes
  have hr := B.returns
  have hts : ∀ w ∈ wb, w.before _ s = true := fun w h => atoms_spec (ws := wsX0_collect) B.pre w (List.mem_cons_of_mem _ h)
  have hown : s.vm.findClass RX0 = some m.cls := findClass_of_methodNamed B.named
  have hlocks := B.notSynchronized
  subst hsz
  have hD := hD0.self (sz := s.heap.size)
  generalize hAe : va_A [(h0, .inr (0, [.ref a1, .ref a2, .int tk, .int ob, .int co, .ref a3, .int rc, .ref a4])), (a1, .inl (c1, 300, .inr (.inl ce))), (a2, .inl (c2, 16, .inl rg)), (a3, .inl (c3, 300, .inl re)), (a4, .inl (c4, 300, .inl np))] s.heap.size = A at hD ⊢
  have hA : ∀ q : Nat, s.heap.size ≤ q → A q := fun q h => by rw [← hAe]; exact Or.inr h
  have hS : va_S A s.heap s.heap [] := va_S.rf
  generalize hQ9 : MQ below (va_Qi (fun (r : Int32) (u : (Nat → Int64) × (Nat → Int32) × Int32 × Int32 × Int32 × (Nat → Int32) × Int32 × (Nat → Int32)) => r = nI (hp_L M).length - nI (hp_L (hp_col M)).length ∧ hp_C (hp_col M) u.1 u.2.1 u.2.2.1 u.2.2.2.1 u.2.2.2.2.1) (fun u t => hw_B (dC, dI) vwCl [(c1, .long), (c2, .int), (c3, .int), (c4, .int)] A ((fun u : (Nat → Int64) × (Nat → Int32) × Int32 × Int32 × Int32 × (Nat → Int32) × Int32 × (Nat → Int32) => [(h0, .inr (0, [.ref a1, .ref a2, .int u.2.2.1, .int u.2.2.2.1, .int u.2.2.2.2.1, .ref a3, .int u.2.2.2.2.2.2.1, .ref a4])), (a1, .inl (c1, 300, .inr (.inl u.1))), (a2, .inl (c2, 16, .inl u.2.1)), (a3, .inl (c3, 300, .inl u.2.2.2.2.2.1)), (a4, .inl (c4, 300, .inl u.2.2.2.2.2.2.2))]) u) t) A) args s 0 0 A = Q9
  have hl := lv_entry ([.ref h0]) (n := 2) (Nat.le_of_ble_eq_true rfl)
  rw [show entryFrame m args 2 = _ from (congrArg (fun z => entryFrame m z 2) hargs).trans (lg_entry_eq m [.ref h0] 2)]
  generalize (lg_sl ([.ref h0]) ++ List.replicate (2 - (lg_sl ([.ref h0])).length) Slot.unset).toArray = ls at hl ⊢
  have hl : lv_has ls 2 [(0, .ref h0)] := hl
  obtain ⟨H, hH⟩ : ∃ H, H = s.heap := ⟨_, rfl⟩
  rw [← hH] at hP
  have hS : va_S A s.heap H [] := by rw [hH]; exact hS
  rw [← hH]
  generalize ([] : List Loc) = locs at hS ⊢
  refine lv_aload_n hx hb dX0_collect_0 rfl (lv_at hl 0 rfl) ?_
  refine va_get (D := (dC, dI)) (ci := 0) (v := .int ob) (C := RX0) (T := TX0) (N := 8) hx hb hts inX0 hown hK hP 0 rfl rfl 3 (by decide) (hts _ bw_fl_X0_21) (fun _ h9 => h9) rfl dX0_collect_1 ?_
  refine lv_istore_n hx hb dX0_collect_4 rfl hl (by decide) rfl (fun ls hl => ?_)
  have hl : lv_has ls 2 [(1, .int ob), (0, .ref h0)] := hl
  refine lv_aload_n hx hb dX0_collect_5 rfl (lv_at hl 1 rfl) ?_
  refine hw_callv (va_runV (As := []) (rest := []) ⟨hx, hb, hml, hown, hts⟩ (c_X0_pressTogether l dC dI h0 a1 a2 a3 a4 c1 c2 c3 c4 ce rg tk ob co re rc np _ M hW hC) (cwV 0 hts gw_X0_73 rfl rfl rfl ⟨rfl, by decide, by decide, by decide +kernel⟩ ⟨Nat.le_of_ble_eq_true rfl, Nat.le_of_ble_eq_true rfl⟩) ⟨hw_blind, va_recv (q0 := 0) (ci := 0) (q := (RX0, TX0, 8)) hK hP rfl rfl, hw_pay hP hK hD⟩ rfl rfl hl.1 rfl (lv_room (Nat.le_of_ble_eq_true rfl)) dX0_collect_6 ⟨by decide, by decide⟩) hD hS hA (fun u9 H locs hw hP hD hS => ?_)
  obtain ⟨ce, rg, tk, ob1, co, re, rc, np⟩ := u9
  have hP : va_P (dC, dI) vwCl [(h0, .inr (0, [.ref a1, .ref a2, .int tk, .int ob1, .int co, .ref a3, .int rc, .ref a4])), (a1, .inl (c1, 300, .inr (.inl ce))), (a2, .inl (c2, 16, .inl rg)), (a3, .inl (c3, 300, .inl re)), (a4, .inl (c4, 300, .inl np))] H := hP
  have hD : va_D A [(h0, .inr (0, [.ref a1, .ref a2, .int tk, .int ob1, .int co, .ref a3, .int rc, .ref a4])), (a1, .inl (c1, 300, .inr (.inl ce))), (a2, .inl (c2, 16, .inl rg)), (a3, .inl (c3, 300, .inl re)), (a4, .inl (c4, 300, .inl np))] := hD
  refine lv_iload_n hx hb dX0_collect_9 rfl (lv_at hl 0 rfl) ?_
  refine lv_aload_n hx hb dX0_collect_10 rfl (lv_at hl 1 rfl) ?_
  refine va_get (D := (dC, dI)) (ci := 0) (v := .int ob1) (C := RX0) (T := TX0) (N := 8) hx hb hts inX0 hown hK hP 0 rfl rfl 3 (by decide) (hts _ bw_fl_X0_21) (fun _ h9 => h9) rfl dX0_collect_11 ?_
  refine lv_isub hx hb dX0_collect_14 ?_
  subst hQ9
  exact W.iret (v := ob - ob1) hx hb hr (fun t ht hWm => ⟨⟨ob - ob1, (ce, rg, tk, ob1, co, re, rc, np), rfl, ⟨by rw [hC.2.1, show ob1 = nI (hp_L (hp_col M)).length from hw.2.1], hw⟩, by rw [ht]; exact hP, va_K.moved hWm.alike hK, hD⟩, hS.F ht⟩) hS.2.2 dX0_collect_15

set_option maxHeartbeats 4000000 in
set_option maxRecDepth 100000 in
theorem c_X0_make (l : Launch) (dC : Nat → ClassId) (dI : Nat → Nat → Nat) (h0 a1 a2 a3 a4 : Nat) (c1 c2 c3 c4 : ClassId) (ce : Nat → Int64) (rg : Nat → Int32) (tk ob co : Int32) (re : Nat → Int32) (rc : Int32) (np : Nat → Int32) (sz : Nat) (M : hp_S) (hW : hp_W M) (hC : hp_C M ce rg tk ob co) (j n k : Nat) (lk : Int32) (hj : j < 16) (hn : n ≤ 40) (hlk : lk = 0 ∧ k = 2 ∨ ¬ lk = 0 ∧ k = 1) (hfit : hp_tk (hp_rm M n) + (1 + n) ≤ 300) : Met l yX0_make wsX0_make ({ frames := 6, cells := 0, slots := 0, locals := 134 }) (va_Pc [.ref h0, .int (nI j), .int lk, .int (nI n)] (hw_pre (dC, dI) vwCl [(c1, .long), (c2, .int), (c3, .int), (c4, .int)] [(h0, .inr (0, [.ref a1, .ref a2, .int tk, .int ob, .int co, .ref a3, .int rc, .ref a4])), (a1, .inl (c1, 300, .inr (.inl ce))), (a2, .inl (c2, 16, .inl rg)), (a3, .inl (c3, 300, .inl re)), (a4, .inl (c4, 300, .inl np))] sz)) (va_Qi (fun (r : Int32) (u : (Nat → Int64) × (Nat → Int32) × Int32 × Int32 × Int32 × (Nat → Int32) × Int32 × (Nat → Int32)) => r = nI (hp_tk (hp_rm M n)) ∧ ∀ o, o ∉ hp_L (hp_rm M n) → 1 ≤ o → hp_C (hp_sr (hp_mk (hp_rm M n) o k n) j o) u.1 u.2.1 u.2.2.1 u.2.2.2.1 u.2.2.2.2.1) (fun u t => hw_B (dC, dI) vwCl [(c1, .long), (c2, .int), (c3, .int), (c4, .int)] (va_A [(h0, .inr (0, [.ref a1, .ref a2, .int tk, .int ob, .int co, .ref a3, .int rc, .ref a4])), (a1, .inl (c1, 300, .inr (.inl ce))), (a2, .inl (c2, 16, .inl rg)), (a3, .inl (c3, 300, .inl re)), (a4, .inl (c4, 300, .inl np))] sz) ((fun u : (Nat → Int64) × (Nat → Int32) × Int32 × Int32 × Int32 × (Nat → Int32) × Int32 × (Nat → Int32) => [(h0, .inr (0, [.ref a1, .ref a2, .int u.2.2.1, .int u.2.2.2.1, .int u.2.2.2.2.1, .ref a3, .int u.2.2.2.2.2.2.1, .ref a4])), (a1, .inl (c1, 300, .inr (.inl u.1))), (a2, .inl (c2, 16, .inl u.2.1)), (a3, .inl (c3, 300, .inl u.2.2.2.2.2.1)), (a4, .inl (c4, 300, .inl u.2.2.2.2.2.2.2))]) u) t) (va_A [(h0, .inr (0, [.ref a1, .ref a2, .int tk, .int ob, .int co, .ref a3, .int rc, .ref a4])), (a1, .inl (c1, 300, .inr (.inl ce))), (a2, .inl (c2, 16, .inl rg)), (a3, .inl (c3, 300, .inl re)), (a4, .inl (c4, 300, .inl np))] sz)) 0 0 (va_A [(h0, .inr (0, [.ref a1, .ref a2, .int tk, .int ob, .int co, .ref a3, .int rc, .ref a4])), (a1, .inl (c1, 300, .inr (.inl ce))), (a2, .inl (c2, 16, .inl rg)), (a3, .inl (c3, 300, .inl re)), (a4, .inl (c4, 300, .inl np))] sz) := by
  refine Met.ofW (cc := cX0_make) (maxL := 8) (ret := some .int) (by decide) rfl ?_
  intro p e s m args below meth c s₁ B hml hv
  obtain ⟨hargs, hsz, hP, hK, hD0⟩ := hv
  have hx := B.exec
  have hb := B.bytes
  have hr := B.returns
  have hts : ∀ w ∈ wb, w.before _ s = true := fun w h => atoms_spec (ws := wsX0_make) B.pre w (List.mem_cons_of_mem _ h)
  have hown : s.vm.findClass RX0 = some m.cls := findClass_of_methodNamed B.named
  have hlocks := B.notSynchronized
  subst hsz
  have hD := hD0.self (sz := s.heap.size)
  generalize hAe : va_A [(h0, .inr (0, [.ref a1, .ref a2, .int tk, .int ob, .int co, .ref a3, .int rc, .ref a4])), (a1, .inl (c1, 300, .inr (.inl ce))), (a2, .inl (c2, 16, .inl rg)), (a3, .inl (c3, 300, .inl re)), (a4, .inl (c4, 300, .inl np))] s.heap.size = A at hD ⊢
  have hA : ∀ q : Nat, s.heap.size ≤ q → A q := fun q h => by rw [← hAe]; exact Or.inr h
  have hS : va_S A s.heap s.heap [] := va_S.rf
  generalize hQ9 : MQ below (va_Qi (fun (r : Int32) (u : (Nat → Int64) × (Nat → Int32) × Int32 × Int32 × Int32 × (Nat → Int32) × Int32 × (Nat → Int32)) => r = nI (hp_tk (hp_rm M n)) ∧ ∀ o, o ∉ hp_L (hp_rm M n) → 1 ≤ o → hp_C (hp_sr (hp_mk (hp_rm M n) o k n) j o) u.1 u.2.1 u.2.2.1 u.2.2.2.1 u.2.2.2.2.1) (fun u t => hw_B (dC, dI) vwCl [(c1, .long), (c2, .int), (c3, .int), (c4, .int)] A ((fun u : (Nat → Int64) × (Nat → Int32) × Int32 × Int32 × Int32 × (Nat → Int32) × Int32 × (Nat → Int32) => [(h0, .inr (0, [.ref a1, .ref a2, .int u.2.2.1, .int u.2.2.2.1, .int u.2.2.2.2.1, .ref a3, .int u.2.2.2.2.2.2.1, .ref a4])), (a1, .inl (c1, 300, .inr (.inl u.1))), (a2, .inl (c2, 16, .inl u.2.1)), (a3, .inl (c3, 300, .inl u.2.2.2.2.2.1)), (a4, .inl (c4, 300, .inl u.2.2.2.2.2.2.2))]) u) t) A) args s 0 0 A = Q9
  have hl := lv_entry ([.ref h0, .int (nI j), .int lk, .int (nI n)]) (n := 8) (Nat.le_of_ble_eq_true rfl)
  rw [show entryFrame m args 8 = _ from (congrArg (fun z => entryFrame m z 8) hargs).trans (lg_entry_eq m [.ref h0, .int (nI j), .int lk, .int (nI n)] 8)]
  generalize (lg_sl ([.ref h0, .int (nI j), .int lk, .int (nI n)]) ++ List.replicate (8 - (lg_sl ([.ref h0, .int (nI j), .int lk, .int (nI n)])).length) Slot.unset).toArray = ls at hl ⊢
  have hl : lv_has ls 8 [(0, .ref h0), (1, .int (nI j)), (2, .int lk), (3, .int (nI n))] := hl
  obtain ⟨H, hH⟩ : ∃ H, H = s.heap := ⟨_, rfl⟩
  rw [← hH] at hP
  have hS : va_S A s.heap H [] := by rw [hH]; exact hS
  rw [← hH]
  generalize ([] : List Loc) = locs at hS ⊢
  have hW1 := hp_rm_W hW n
  have hT1 := hW1.2.2.2.2.2
  have hk4 : k < 4 := by omega
  have tail37 : ∀ (ce : Nat → Int64) (rg : Nat → Int32) (tk : Int32) (ob : Int32) (co : Int32) (re : Nat → Int32) (rc : Int32) (np : Nat → Int32) (H : Heap) (locs : List Loc) (ls : Array Slot), (∃ ce1 tk1 ob1, hp_C (hp_rm M n) ce1 rg tk1 ob1 co ∧ ce = vp_updL ce1 (hp_tk (hp_rm M n)) (lN (4 * n + k)) ∧ tk = nI (hp_tk (hp_rm M n) + (1 + n)) ∧ ob = nI ((hp_L (hp_rm M n)).length + 1)) → va_P (dC, dI) vwCl [(h0, .inr (0, [.ref a1, .ref a2, .int tk, .int ob, .int co, .ref a3, .int rc, .ref a4])), (a1, .inl (c1, 300, .inr (.inl ce))), (a2, .inl (c2, 16, .inl rg)), (a3, .inl (c3, 300, .inl re)), (a4, .inl (c4, 300, .inl np))] H → va_D A [(h0, .inr (0, [.ref a1, .ref a2, .int tk, .int ob, .int co, .ref a3, .int rc, .ref a4])), (a1, .inl (c1, 300, .inr (.inl ce))), (a2, .inl (c2, 16, .inl rg)), (a3, .inl (c3, 300, .inl re)), (a4, .inl (c4, 300, .inl np))] → va_S A s.heap H locs → lv_has ls 8 [(4, .int (nI (hp_tk (hp_rm M n)))), (1, .int (nI j)), (2, .int lk), (3, .int (nI n)), (0, .ref h0)] → W p l e (headSpec wsX0_make ({ frames := 6, cells := 0, slots := 0, locals := 134 })).room s m args below meth c H locs 0 0 Q9 (F0 m 37 ls [.long (hp_f0 k)]) := by
    intro ce rg tk ob co re rc np H locs ls hI hP hD hS hl
    obtain ⟨ce1, tk1, ob1, hC1, hce, htk, hob⟩ := hI
    refine lv_lstore hx hb dX0_make_37 hl (by decide) rfl (fun ls hl => ?_)
    have hl : lv_has ls 8 [(5, .long (hp_f0 k)), (4, .int (nI (hp_tk (hp_rm M n)))), (1, .int (nI j)), (2, .int lk), (3, .int (nI n)), (0, .ref h0)] := hl
    refine lv_iconst (v := 0) hx hb dX0_make_39 (by decide) ?_
    refine hw_topi (y := nI 0) (nI_0.symm) ?_
    refine lv_istore hx hb dX0_make_40 hl (by decide) rfl (fun ls hl => ?_)
    have hl : lv_has ls 8 [(7, .int (nI 0)), (5, .long (hp_f0 k)), (4, .int (nI (hp_tk (hp_rm M n)))), (1, .int (nI j)), (2, .int lk), (3, .int (nI n)), (0, .ref h0)] := hl
    have loop : ∀ (n9 : Nat) (i : Nat) (ce : Nat → Int64) (H : Heap) (locs : List Loc) (ls : Array Slot), n - i < n9 → (i ≤ n ∧ hp_mw (hp_rm M n) n k ce1 ce i) → va_P (dC, dI) vwCl [(h0, .inr (0, [.ref a1, .ref a2, .int tk, .int ob, .int co, .ref a3, .int rc, .ref a4])), (a1, .inl (c1, 300, .inr (.inl ce))), (a2, .inl (c2, 16, .inl rg)), (a3, .inl (c3, 300, .inl re)), (a4, .inl (c4, 300, .inl np))] H → va_D A [(h0, .inr (0, [.ref a1, .ref a2, .int tk, .int ob, .int co, .ref a3, .int rc, .ref a4])), (a1, .inl (c1, 300, .inr (.inl ce))), (a2, .inl (c2, 16, .inl rg)), (a3, .inl (c3, 300, .inl re)), (a4, .inl (c4, 300, .inl np))] → va_S A s.heap H locs → lv_has ls 8 [(7, .int (nI i)), (5, .long (hp_f0 k)), (4, .int (nI (hp_tk (hp_rm M n)))), (1, .int (nI j)), (2, .int lk), (3, .int (nI n)), (0, .ref h0)] → W p l e (headSpec wsX0_make ({ frames := 6, cells := 0, slots := 0, locals := 134 })).room s m args below meth c H locs 0 0 Q9 (F0 m 42 ls []) := by
      intro n9
      induction n9 with
      | zero => intro i ce H locs ls hm; exact absurd hm (Nat.not_lt_zero _)
      | succ n9 ih =>
        intro i ce H locs ls hm hI hP hD hS hl
        refine lv_iload hx hb dX0_make_42 (lv_at hl 0 rfl) ?_
        refine lv_iload_n hx hb dX0_make_44 rfl (lv_at hl 5 rfl) ?_
        refine lv_icmp_ge hx hb dX0_make_45 (tgt := 68) (by decide) (fun hc => ?_) (fun hc => ?_)
        · have hi : n = i := by
            have h1 := (nI_leI (by omega) (by omega)).mp hc
            omega
          subst hi
          refine lv_aload_n hx hb dX0_make_68 rfl (lv_at hl 6 rfl) ?_
          refine va_get (D := (dC, dI)) (ci := 0) (v := .ref a2) (C := RX0) (T := TX0) (N := 8) hx hb hts inX0 hown hK hP 0 rfl rfl 1 (by decide) (hts _ bw_fl_X0_13) (fun _ h9 => h9) rfl dX0_make_69 ?_
          refine lv_iload_n hx hb dX0_make_72 rfl (lv_at hl 3 rfl) ?_
          refine lv_iload hx hb dX0_make_73 (lv_at hl 2 rfl) ?_
          refine hw_iast (j := j) hx hb hK hP hD hS 2 1 rfl rfl (rfl) (hj) (by decide) dX0_make_75 (fun H locs hP hD hS => ?_)
          have hP : va_P (dC, dI) vwCl [(h0, .inr (0, [.ref a1, .ref a2, .int tk, .int ob, .int co, .ref a3, .int rc, .ref a4])), (a1, .inl (c1, 300, .inr (.inl ce))), (a2, .inl (c2, 16, .inl (upd rg j (nI (hp_tk (hp_rm M n)))))), (a3, .inl (c3, 300, .inl re)), (a4, .inl (c4, 300, .inl np))] H := hP
          have hD : va_D A [(h0, .inr (0, [.ref a1, .ref a2, .int tk, .int ob, .int co, .ref a3, .int rc, .ref a4])), (a1, .inl (c1, 300, .inr (.inl ce))), (a2, .inl (c2, 16, .inl (upd rg j (nI (hp_tk (hp_rm M n)))))), (a3, .inl (c3, 300, .inl re)), (a4, .inl (c4, 300, .inl np))] := hD
          refine lv_iload hx hb dX0_make_76 (lv_at hl 2 rfl) ?_
          subst hQ9
          exact W.iret (v := nI (hp_tk (hp_rm M n))) hx hb hr (fun t ht hWm => ⟨⟨nI (hp_tk (hp_rm M n)), (ce, (upd rg j (nI (hp_tk (hp_rm M n)))), tk, ob, co, re, rc, np), rfl, ⟨rfl, fun o ho h1 => by rw [htk, hob]; exact hp_mk_done hW1 hC1 hI.2 o ho h1⟩, by rw [ht]; exact hP, va_K.moved hWm.alike hK, hD⟩, hS.F ht⟩) hS.2.2 dX0_make_78
        · have hi : i < n := Nat.lt_of_not_le (fun h9 => hc ((nI_leI (by omega) (by omega)).mpr (by omega)))
          refine lv_aload_n hx hb dX0_make_48 rfl (lv_at hl 6 rfl) ?_
          refine va_get (D := (dC, dI)) (ci := 0) (v := .ref a1) (C := RX0) (T := TX0) (N := 8) hx hb hts inX0 hown hK hP 0 rfl rfl 0 (by decide) (hts _ bw_fl_X0_9) (fun _ h9 => h9) rfl dX0_make_49 ?_
          refine lv_iload hx hb dX0_make_52 (lv_at hl 2 rfl) ?_
          refine lv_iconst (v := 1) hx hb dX0_make_54 (by decide) ?_
          refine lv_iadd hx hb dX0_make_55 ?_
          refine lv_iload hx hb dX0_make_56 (lv_at hl 0 rfl) ?_
          refine lv_iadd hx hb dX0_make_58 ?_
          refine lv_lload hx hb dX0_make_59 (lv_at hl 1 rfl) ?_
          refine hw_last (j := hp_tk (hp_rm M n) + (1 + i)) hx hb hK hP hD hS 1 0 rfl rfl (by rw [nI_1, nI_add]; congr 1; omega) (by omega) (by decide) dX0_make_61 (fun H locs hP hD hS => ?_)
          have hP : va_P (dC, dI) vwCl [(h0, .inr (0, [.ref a1, .ref a2, .int tk, .int ob, .int co, .ref a3, .int rc, .ref a4])), (a1, .inl (c1, 300, .inr (.inl (vp_updL ce (hp_tk (hp_rm M n) + (1 + i)) (hp_f0 k))))), (a2, .inl (c2, 16, .inl rg)), (a3, .inl (c3, 300, .inl re)), (a4, .inl (c4, 300, .inl np))] H := hP
          have hD : va_D A [(h0, .inr (0, [.ref a1, .ref a2, .int tk, .int ob, .int co, .ref a3, .int rc, .ref a4])), (a1, .inl (c1, 300, .inr (.inl (vp_updL ce (hp_tk (hp_rm M n) + (1 + i)) (hp_f0 k))))), (a2, .inl (c2, 16, .inl rg)), (a3, .inl (c3, 300, .inl re)), (a4, .inl (c4, 300, .inl np))] := hD
          refine lv_iinc (k := 0) (v := nI (i + 1)) hx hb dX0_make_62 hl rfl (nI_1 i) (by decide) rfl (fun ls hl => ?_)
          have hl : lv_has ls 8 [(7, .int (nI (i + 1))), (5, .long (hp_f0 k)), (4, .int (nI (hp_tk (hp_rm M n)))), (1, .int (nI j)), (2, .int lk), (3, .int (nI n)), (0, .ref h0)] := hl
          refine lv_goto hx hb dX0_make_65 (tgt := 42) (by decide) ?_
          exact ih (i + 1) (vp_updL ce (hp_tk (hp_rm M n) + (1 + i)) (hp_f0 k)) H locs ls (by omega) (⟨hi, hp_mw_s hI.2⟩) hP hD hS (lv_sub hl [0, 1, 2, 3, 4, 5, 6] rfl)
    exact loop _ 0 ce H locs ls (Nat.lt_succ_self _) (⟨Nat.zero_le _, by rw [hce]; exact hp_mw_0 _ _ _ _⟩) hP hD hS (lv_sub hl [0, 1, 2, 3, 4, 5, 6] rfl)
  have tail20 : ∀ (ce : Nat → Int64) (rg : Nat → Int32) (tk : Int32) (ob : Int32) (co : Int32) (re : Nat → Int32) (rc : Int32) (np : Nat → Int32) (H : Heap) (locs : List Loc) (ls : Array Slot), (hp_C M ce rg tk ob co) → va_P (dC, dI) vwCl [(h0, .inr (0, [.ref a1, .ref a2, .int tk, .int ob, .int co, .ref a3, .int rc, .ref a4])), (a1, .inl (c1, 300, .inr (.inl ce))), (a2, .inl (c2, 16, .inl rg)), (a3, .inl (c3, 300, .inl re)), (a4, .inl (c4, 300, .inl np))] H → va_D A [(h0, .inr (0, [.ref a1, .ref a2, .int tk, .int ob, .int co, .ref a3, .int rc, .ref a4])), (a1, .inl (c1, 300, .inr (.inl ce))), (a2, .inl (c2, 16, .inl rg)), (a3, .inl (c3, 300, .inl re)), (a4, .inl (c4, 300, .inl np))] → va_S A s.heap H locs → lv_has ls 8 [(1, .int (nI j)), (2, .int lk), (3, .int (nI n)), (0, .ref h0)] → W p l e (headSpec wsX0_make ({ frames := 6, cells := 0, slots := 0, locals := 134 })).room s m args below meth c H locs 0 0 Q9 (F0 m 20 ls [.int (nI k), .ref h0]) := by
    intro ce rg tk ob co re rc np H locs ls hI hP hD hS hl
    refine lv_iload_n hx hb dX0_make_20 rfl (lv_at hl 2 rfl) ?_
    refine hw_calli (va_runV (As := [.int (nI k), .int (nI n)]) (rest := []) ⟨hx, hb, hml, hown, hts⟩ (c_X0_takeCells l dC dI h0 a1 a2 a3 a4 c1 c2 c3 c4 ce rg tk ob co re rc np _ M hW hI k n hk4 hn hfit) (cwV 2 hts gw_X0_50 rfl rfl rfl ⟨rfl, by decide, by decide, by decide +kernel⟩ ⟨Nat.le_of_ble_eq_true rfl, Nat.le_of_ble_eq_true rfl⟩) ⟨hw_blind, va_recv (q0 := 0) (ci := 0) (q := (RX0, TX0, 8)) hK hP rfl rfl, hw_pay hP hK hD⟩ rfl rfl hl.1 rfl (lv_room (Nat.le_of_ble_eq_true rfl)) dX0_make_21 ⟨by decide, by decide⟩) hD hS hA (fun r9 u9 H locs hw hP hD hS => ?_)
    obtain ⟨ce, rg, tk, ob, co, re, rc, np⟩ := u9
    have hP : va_P (dC, dI) vwCl [(h0, .inr (0, [.ref a1, .ref a2, .int tk, .int ob, .int co, .ref a3, .int rc, .ref a4])), (a1, .inl (c1, 300, .inr (.inl ce))), (a2, .inl (c2, 16, .inl rg)), (a3, .inl (c3, 300, .inl re)), (a4, .inl (c4, 300, .inl np))] H := hP
    have hD : va_D A [(h0, .inr (0, [.ref a1, .ref a2, .int tk, .int ob, .int co, .ref a3, .int rc, .ref a4])), (a1, .inl (c1, 300, .inr (.inl ce))), (a2, .inl (c2, 16, .inl rg)), (a3, .inl (c3, 300, .inl re)), (a4, .inl (c4, 300, .inl np))] := hD
    obtain ⟨hr9, hpt⟩ := hw
    refine hw_topi (y := nI (hp_tk (hp_rm M n))) (hr9) ?_
    refine lv_istore hx hb dX0_make_24 hl (by decide) rfl (fun ls hl => ?_)
    have hl : lv_has ls 8 [(4, .int (nI (hp_tk (hp_rm M n)))), (1, .int (nI j)), (2, .int lk), (3, .int (nI n)), (0, .ref h0)] := hl
    refine lv_iload_n hx hb dX0_make_26 rfl (lv_at hl 2 rfl) ?_
    refine lv_if_eq hx hb dX0_make_27 (tgt := 36) (by decide) (fun hc => ?_) (fun hc => ?_)
    · have hk2 : k = 2 := (hlk.resolve_right (fun h9 => h9.1 hc)).2
      refine lv_lconst (v := 0) hx hb dX0_make_36 (by decide) ?_
      refine hw_topl (y := hp_f0 k) (by rw [hk2]; rfl) ?_
      exact tail37 ce rg tk ob co re rc np H locs ls (hpt) hP hD hS (lv_sub hl [0, 1, 2, 3, 4] rfl)
    · have hk2 : k = 1 := (hlk.resolve_left (fun h9 => hc h9.1)).2
      refine W.eq (g2 := F0 m 30 ls []) rfl ?_
      refine W.ldc2 (own := RX0) (v := -1) hx hb hown (hts _ bw_kl_X0_54) rfl dX0_make_30 ?_
      refine W.eq (g2 := F0 m 33 ls [.long (-1)]) rfl ?_
      refine lv_goto hx hb dX0_make_33 (tgt := 37) (by decide) ?_
      refine hw_topl (y := hp_f0 k) (by rw [hk2]; rfl) ?_
      exact tail37 ce rg tk ob co re rc np H locs ls (hpt) hP hD hS (lv_sub hl [0, 1, 2, 3, 4] rfl)
  refine lv_iload_n hx hb dX0_make_0 rfl (lv_at hl 1 rfl) ?_
  refine hw_callN (W.runS (As := [.int (nI j)]) (rest := []) ⟨hx, hb, hml, hown, hts⟩ (c_X0_checkRegister l (hp_ok2 hj (by decide))) (va_cwS 1 hts gw_X0_42 rfl rfl rfl ⟨by decide, by decide, by decide +kernel⟩ ⟨Nat.le_of_ble_eq_true rfl, Nat.le_of_ble_eq_true rfl⟩) preEq rfl rfl hl.1 rfl (lv_room (Nat.le_of_ble_eq_true rfl)) dX0_make_1 ⟨by decide, by decide⟩) ?_
  refine lv_iload_n hx hb dX0_make_4 rfl (lv_at hl 3 rfl) ?_
  refine lv_bipush (v := 41) hx hb dX0_make_5 (by decide) ?_
  refine hw_callN (W.runS (As := [.int (nI n), .int 41]) (rest := []) ⟨hx, hb, hml, hown, hts⟩ (c_X0_checkBelow l (hp_ok2 (n := 41) (by omega) (by decide))) (va_cwS 2 hts gw_X0_46 rfl rfl rfl ⟨by decide, by decide, by decide +kernel⟩ ⟨Nat.le_of_ble_eq_true rfl, Nat.le_of_ble_eq_true rfl⟩) preEq rfl rfl hl.1 rfl (lv_room (Nat.le_of_ble_eq_true rfl)) dX0_make_7 ⟨by decide, by decide⟩) ?_
  refine lv_aload_n hx hb dX0_make_10 rfl (lv_at hl 0 rfl) ?_
  refine lv_iload_n hx hb dX0_make_11 rfl (lv_at hl 2 rfl) ?_
  refine lv_if_eq hx hb dX0_make_12 (tgt := 19) (by decide) (fun hc => ?_) (fun hc => ?_)
  · have hk2 : k = 2 := (hlk.resolve_right (fun h9 => h9.1 hc)).2
    refine lv_iconst (v := 2) hx hb dX0_make_19 (by decide) ?_
    refine hw_topi (y := nI k) (by rw [hk2]; decide) ?_
    exact tail20 ce rg tk ob co re rc np H locs ls (hC) hP hD hS (lv_sub hl [1, 2, 3, 0] rfl)
  · have hk2 : k = 1 := (hlk.resolve_left (fun h9 => hc h9.1)).2
    refine lv_iconst (v := 1) hx hb dX0_make_15 (by decide) ?_
    refine lv_goto hx hb dX0_make_16 (tgt := 20) (by decide) ?_
    refine hw_topi (y := nI k) (by rw [hk2]; decide) ?_
    exact tail20 ce rg tk ob co re rc np H locs ls (hC) hP hD hS (lv_sub hl [1, 2, 3, 0] rfl)

set_option maxHeartbeats 4000000 in
set_option maxRecDepth 100000 in
theorem xf_X0_make (l : Launch) (dC : Nat → ClassId) (dI : Nat → Nat → Nat) (h0 a1 a2 a3 a4 : Nat) (c1 c2 c3 c4 : ClassId) (ce : Nat → Int64) (rg : Nat → Int32) (tk ob co : Int32) (re : Nat → Int32) (rc : Int32) (np : Nat → Int32) (sz : Nat) (hl9 : l.stackTraces = false) (M : hp_S) (hW : hp_W M) (hC : hp_C M ce rg tk ob co) (j n k : Nat) (lk : Int32) (hj : j < 16) (hn : n ≤ 40) (hlk : lk = 0 ∧ k = 2 ∨ ¬ lk = 0 ∧ k = 1) (hfull : ¬ hp_tk (hp_rm M n) + (1 + n) ≤ 300) : vx_Met l yX0_make wsX0_make ({ frames := 7, cells := 1, slots := 6, locals := 134 }) (va_Pc [.ref h0, .int (nI j), .int lk, .int (nI n)] (hx_pre (dC, dI) vwCl [(c1, .long), (c2, .int), (c3, .int), (c4, .int)] [(h0, .inr (0, [.ref a1, .ref a2, .int tk, .int ob, .int co, .ref a3, .int rc, .ref a4])), (a1, .inl (c1, 300, .inr (.inl ce))), (a2, .inl (c2, 16, .inl rg)), (a3, .inl (c3, 300, .inl re)), (a4, .inl (c4, 300, .inl np))] sz)) (fun _ _ _ _ => False) (vx_X (fun _ : (Nat → Int64) × (Nat → Int32) × Int32 × Int32 × Int32 × (Nat → Int32) × Int32 × (Nat → Int32) => True) (fun E u t => (fun (E : String) (u : (Nat → Int64) × (Nat → Int32) × Int32 × Int32 × Int32 × (Nat → Int32) × Int32 × (Nat → Int32)) => E = hz_I ∧ hp_C (hp_rm M n) u.1 u.2.1 u.2.2.1 u.2.2.2.1 u.2.2.2.2.1) E u ∧ hw_B (dC, dI) vwCl [(c1, .long), (c2, .int), (c3, .int), (c4, .int)] (va_A [(h0, .inr (0, [.ref a1, .ref a2, .int tk, .int ob, .int co, .ref a3, .int rc, .ref a4])), (a1, .inl (c1, 300, .inr (.inl ce))), (a2, .inl (c2, 16, .inl rg)), (a3, .inl (c3, 300, .inl re)), (a4, .inl (c4, 300, .inl np))] sz) ((fun u : (Nat → Int64) × (Nat → Int32) × Int32 × Int32 × Int32 × (Nat → Int32) × Int32 × (Nat → Int32) => [(h0, .inr (0, [.ref a1, .ref a2, .int u.2.2.1, .int u.2.2.2.1, .int u.2.2.2.2.1, .ref a3, .int u.2.2.2.2.2.2.1, .ref a4])), (a1, .inl (c1, 300, .inr (.inl u.1))), (a2, .inl (c2, 16, .inl u.2.1)), (a3, .inl (c3, 300, .inl u.2.2.2.2.2.1)), (a4, .inl (c4, 300, .inl u.2.2.2.2.2.2.2))]) u) t) (va_A [(h0, .inr (0, [.ref a1, .ref a2, .int tk, .int ob, .int co, .ref a3, .int rc, .ref a4])), (a1, .inl (c1, 300, .inr (.inl ce))), (a2, .inl (c2, 16, .inl rg)), (a3, .inl (c3, 300, .inl re)), (a4, .inl (c4, 300, .inl np))] sz)) 1 6 (va_A [(h0, .inr (0, [.ref a1, .ref a2, .int tk, .int ob, .int co, .ref a3, .int rc, .ref a4])), (a1, .inl (c1, 300, .inr (.inl ce))), (a2, .inl (c2, 16, .inl rg)), (a3, .inl (c3, 300, .inl re)), (a4, .inl (c4, 300, .inl np))] sz) := by
  refine vx_ofW (cc := cX0_make) (maxL := 8) (ret := some .int) (by decide) rfl ?_
  intro p e s m args below meth c s₁ B hml hEx hv
  obtain ⟨hargs, hsz, hP, hK, hD0, hZ⟩ := hv
  have hx := B.exec
  have hb := B.bytes
  have hr := B.returns
  have hts : ∀ w ∈ wb, w.before _ s = true := fun w h => atoms_spec (ws := wsX0_make) B.pre w (List.mem_cons_of_mem _ h)
  have hown : s.vm.findClass RX0 = some m.cls := findClass_of_methodNamed B.named
  have hlocks := B.notSynchronized
  subst hsz
  have hD := hD0.self (sz := s.heap.size)
  generalize hAe : va_A [(h0, .inr (0, [.ref a1, .ref a2, .int tk, .int ob, .int co, .ref a3, .int rc, .ref a4])), (a1, .inl (c1, 300, .inr (.inl ce))), (a2, .inl (c2, 16, .inl rg)), (a3, .inl (c3, 300, .inl re)), (a4, .inl (c4, 300, .inl np))] s.heap.size = A at hD hZ ⊢
  have hA : ∀ q : Nat, s.heap.size ≤ q → A q := fun q h => by rw [← hAe]; exact Or.inr h
  have hS : va_S A s.heap s.heap [] := va_S.rf
  generalize hQ9 : vx_MQ below (fun _ _ _ _ => False) (vx_X (fun _ : (Nat → Int64) × (Nat → Int32) × Int32 × Int32 × Int32 × (Nat → Int32) × Int32 × (Nat → Int32) => True) (fun E u t => (fun (E : String) (u : (Nat → Int64) × (Nat → Int32) × Int32 × Int32 × Int32 × (Nat → Int32) × Int32 × (Nat → Int32)) => E = hz_I ∧ hp_C (hp_rm M n) u.1 u.2.1 u.2.2.1 u.2.2.2.1 u.2.2.2.2.1) E u ∧ hw_B (dC, dI) vwCl [(c1, .long), (c2, .int), (c3, .int), (c4, .int)] A ((fun u : (Nat → Int64) × (Nat → Int32) × Int32 × Int32 × Int32 × (Nat → Int32) × Int32 × (Nat → Int32) => [(h0, .inr (0, [.ref a1, .ref a2, .int u.2.2.1, .int u.2.2.2.1, .int u.2.2.2.2.1, .ref a3, .int u.2.2.2.2.2.2.1, .ref a4])), (a1, .inl (c1, 300, .inr (.inl u.1))), (a2, .inl (c2, 16, .inl u.2.1)), (a3, .inl (c3, 300, .inl u.2.2.2.2.2.1)), (a4, .inl (c4, 300, .inl u.2.2.2.2.2.2.2))]) u) t) A) args s 1 6 A = Q9
  have hl := lv_entry ([.ref h0, .int (nI j), .int lk, .int (nI n)]) (n := 8) (Nat.le_of_ble_eq_true rfl)
  rw [show entryFrame m args 8 = _ from (congrArg (fun z => entryFrame m z 8) hargs).trans (lg_entry_eq m [.ref h0, .int (nI j), .int lk, .int (nI n)] 8)]
  generalize (lg_sl ([.ref h0, .int (nI j), .int lk, .int (nI n)]) ++ List.replicate (8 - (lg_sl ([.ref h0, .int (nI j), .int lk, .int (nI n)])).length) Slot.unset).toArray = ls at hl ⊢
  have hl : lv_has ls 8 [(0, .ref h0), (1, .int (nI j)), (2, .int lk), (3, .int (nI n))] := hl
  obtain ⟨H, hH⟩ : ∃ H, H = s.heap := ⟨_, rfl⟩
  rw [← hH] at hP
  have hS : va_S A s.heap H [] := by rw [hH]; exact hS
  rw [← hH]
  generalize ([] : List Loc) = locs at hS ⊢
  have hk4 : k < 4 := by omega
  have tail20 : ∀ (ce : Nat → Int64) (rg : Nat → Int32) (tk : Int32) (ob : Int32) (co : Int32) (re : Nat → Int32) (rc : Int32) (np : Nat → Int32) (H : Heap) (locs : List Loc) (ls : Array Slot), (hp_C M ce rg tk ob co) → va_P (dC, dI) vwCl [(h0, .inr (0, [.ref a1, .ref a2, .int tk, .int ob, .int co, .ref a3, .int rc, .ref a4])), (a1, .inl (c1, 300, .inr (.inl ce))), (a2, .inl (c2, 16, .inl rg)), (a3, .inl (c3, 300, .inl re)), (a4, .inl (c4, 300, .inl np))] H → va_D A [(h0, .inr (0, [.ref a1, .ref a2, .int tk, .int ob, .int co, .ref a3, .int rc, .ref a4])), (a1, .inl (c1, 300, .inr (.inl ce))), (a2, .inl (c2, 16, .inl rg)), (a3, .inl (c3, 300, .inl re)), (a4, .inl (c4, 300, .inl np))] → va_S A s.heap H locs → lv_has ls 8 [(1, .int (nI j)), (2, .int lk), (3, .int (nI n)), (0, .ref h0)] → W p l e (headSpec wsX0_make ({ frames := 7, cells := 1, slots := 6, locals := 134 })).room s m args below meth c H locs 0 0 Q9 (F0 m 20 ls [.int (nI k), .ref h0]) := by
    intro ce rg tk ob co re rc np H locs ls hI hP hD hS hl
    refine lv_iload_n hx hb dX0_make_20 rfl (lv_at hl 2 rfl) ?_
    refine hx_throwsW (vx_runV (As := [.int (nI k), .int (nI n)]) (rest := []) ⟨hx, hb, hml, hown, hts⟩ (x_X0_takeCells l dC dI h0 a1 a2 a3 a4 c1 c2 c3 c4 ce rg tk ob co re rc np _ hl9 M hW hI k n hk4 hn hfull) (cwV 2 hts gw_X0_50 rfl rfl rfl ⟨rfl, by decide, by decide, by decide +kernel⟩ ⟨Nat.le_of_ble_eq_true rfl, Nat.le_of_ble_eq_true rfl⟩) ⟨hx_blind, va_recv (q0 := 0) (ci := 0) (q := (RX0, TX0, 8)) hK hP rfl rfl, hx_pay hP hK hD hS hA hZ⟩ rfl rfl hl.1 rfl (lv_room (Nat.le_of_ble_eq_true rfl)) dX0_make_21 ⟨by decide, by decide⟩) hD hS hA (fun E ce9 q9 u9 H locs hb9 hP hD hS h1 h2 h3 => ?_)
    subst hQ9
    exact vx_out (fun x hx => (hEx x hx).elim) hlocks h1 h2 h3 (fun t ht ha => ⟨u9, trivial, ⟨hb9, by rw [ht]; exact hP, va_K.moved ha hK, hD⟩, hS.F ht⟩) hS.2.2 (Nat.le_of_ble_eq_true rfl) (Nat.le_of_ble_eq_true rfl)
  refine lv_iload_n hx hb dX0_make_0 rfl (lv_at hl 1 rfl) ?_
  refine hw_callN (W.runS (As := [.int (nI j)]) (rest := []) ⟨hx, hb, hml, hown, hts⟩ (c_X0_checkRegister l (hp_ok2 hj (by decide))) (va_cwS 1 hts gw_X0_42 rfl rfl rfl ⟨by decide, by decide, by decide +kernel⟩ ⟨Nat.le_of_ble_eq_true rfl, Nat.le_of_ble_eq_true rfl⟩) preEq rfl rfl hl.1 rfl (lv_room (Nat.le_of_ble_eq_true rfl)) dX0_make_1 ⟨by decide, by decide⟩) ?_
  refine lv_iload_n hx hb dX0_make_4 rfl (lv_at hl 3 rfl) ?_
  refine lv_bipush (v := 41) hx hb dX0_make_5 (by decide) ?_
  refine hw_callN (W.runS (As := [.int (nI n), .int 41]) (rest := []) ⟨hx, hb, hml, hown, hts⟩ (c_X0_checkBelow l (hp_ok2 (n := 41) (by omega) (by decide))) (va_cwS 2 hts gw_X0_46 rfl rfl rfl ⟨by decide, by decide, by decide +kernel⟩ ⟨Nat.le_of_ble_eq_true rfl, Nat.le_of_ble_eq_true rfl⟩) preEq rfl rfl hl.1 rfl (lv_room (Nat.le_of_ble_eq_true rfl)) dX0_make_7 ⟨by decide, by decide⟩) ?_
  refine lv_aload_n hx hb dX0_make_10 rfl (lv_at hl 0 rfl) ?_
  refine lv_iload_n hx hb dX0_make_11 rfl (lv_at hl 2 rfl) ?_
  refine lv_if_eq hx hb dX0_make_12 (tgt := 19) (by decide) (fun hc => ?_) (fun hc => ?_)
  · have hk2 : k = 2 := (hlk.resolve_right (fun h9 => h9.1 hc)).2
    refine lv_iconst (v := 2) hx hb dX0_make_19 (by decide) ?_
    refine hw_topi (y := nI k) (by rw [hk2]; decide) ?_
    exact tail20 ce rg tk ob co re rc np H locs ls (hC) hP hD hS (lv_sub hl [1, 2, 3, 0] rfl)
  · have hk2 : k = 1 := (hlk.resolve_left (fun h9 => hc h9.1)).2
    refine lv_iconst (v := 1) hx hb dX0_make_15 (by decide) ?_
    refine lv_goto hx hb dX0_make_16 (tgt := 20) (by decide) ?_
    refine hw_topi (y := nI k) (by rw [hk2]; decide) ?_
    exact tail20 ce rg tk ob co re rc np H locs ls (hC) hP hD hS (lv_sub hl [1, 2, 3, 0] rfl)

set_option maxHeartbeats 4000000 in
set_option maxRecDepth 100000 in
theorem x_X0_make (l : Launch) (dC : Nat → ClassId) (dI : Nat → Nat → Nat) (h0 a1 a2 a3 a4 : Nat) (c1 c2 c3 c4 : ClassId) (ce : Nat → Int64) (rg : Nat → Int32) (tk ob co : Int32) (re : Nat → Int32) (rc : Int32) (np : Nat → Int32) (sz : Nat) (hl9 : l.stackTraces = false) (r lk n : Int32) (hbad : hp_bad r 16 ∨ hp_bad n 41) : vx_Met l yX0_make wsX0_make ({ frames := 8, cells := 1, slots := 6, locals := 131 }) (va_Pc [.ref h0, .int r, .int lk, .int n] (hx_pre (dC, dI) vwCl [(c1, .long), (c2, .int), (c3, .int), (c4, .int)] [(h0, .inr (0, [.ref a1, .ref a2, .int tk, .int ob, .int co, .ref a3, .int rc, .ref a4])), (a1, .inl (c1, 300, .inr (.inl ce))), (a2, .inl (c2, 16, .inl rg)), (a3, .inl (c3, 300, .inl re)), (a4, .inl (c4, 300, .inl np))] sz)) (fun _ _ _ _ => False) (vx_X (fun _ : Unit => True) (fun E u t => (fun (E : String) (_ : Unit) => E = hz_A) E u ∧ hw_B (dC, dI) vwCl [(c1, .long), (c2, .int), (c3, .int), (c4, .int)] (va_A [(h0, .inr (0, [.ref a1, .ref a2, .int tk, .int ob, .int co, .ref a3, .int rc, .ref a4])), (a1, .inl (c1, 300, .inr (.inl ce))), (a2, .inl (c2, 16, .inl rg)), (a3, .inl (c3, 300, .inl re)), (a4, .inl (c4, 300, .inl np))] sz) ((fun _ : Unit => [(h0, .inr (0, [.ref a1, .ref a2, .int tk, .int ob, .int co, .ref a3, .int rc, .ref a4])), (a1, .inl (c1, 300, .inr (.inl ce))), (a2, .inl (c2, 16, .inl rg)), (a3, .inl (c3, 300, .inl re)), (a4, .inl (c4, 300, .inl np))]) u) t) (va_A [(h0, .inr (0, [.ref a1, .ref a2, .int tk, .int ob, .int co, .ref a3, .int rc, .ref a4])), (a1, .inl (c1, 300, .inr (.inl ce))), (a2, .inl (c2, 16, .inl rg)), (a3, .inl (c3, 300, .inl re)), (a4, .inl (c4, 300, .inl np))] sz)) 1 6 (va_A [(h0, .inr (0, [.ref a1, .ref a2, .int tk, .int ob, .int co, .ref a3, .int rc, .ref a4])), (a1, .inl (c1, 300, .inr (.inl ce))), (a2, .inl (c2, 16, .inl rg)), (a3, .inl (c3, 300, .inl re)), (a4, .inl (c4, 300, .inl np))] sz) := by
  refine vx_ofW (cc := cX0_make) (maxL := 8) (ret := some .int) (by decide) rfl ?_
  intro p e s m args below meth c s₁ B hml hEx hv
  obtain ⟨hargs, hsz, hP, hK, hD0, hZ⟩ := hv
  have hx := B.exec
  have hb := B.bytes
  have hr := B.returns
  have hts : ∀ w ∈ wb, w.before _ s = true := fun w h => atoms_spec (ws := wsX0_make) B.pre w (List.mem_cons_of_mem _ h)
  have hown : s.vm.findClass RX0 = some m.cls := findClass_of_methodNamed B.named
  have hlocks := B.notSynchronized
  subst hsz
  have hD := hD0.self (sz := s.heap.size)
  generalize hAe : va_A [(h0, .inr (0, [.ref a1, .ref a2, .int tk, .int ob, .int co, .ref a3, .int rc, .ref a4])), (a1, .inl (c1, 300, .inr (.inl ce))), (a2, .inl (c2, 16, .inl rg)), (a3, .inl (c3, 300, .inl re)), (a4, .inl (c4, 300, .inl np))] s.heap.size = A at hD hZ ⊢
  have hA : ∀ q : Nat, s.heap.size ≤ q → A q := fun q h => by rw [← hAe]; exact Or.inr h
  have hS : va_S A s.heap s.heap [] := va_S.rf
  generalize hQ9 : vx_MQ below (fun _ _ _ _ => False) (vx_X (fun _ : Unit => True) (fun E u t => (fun (E : String) (_ : Unit) => E = hz_A) E u ∧ hw_B (dC, dI) vwCl [(c1, .long), (c2, .int), (c3, .int), (c4, .int)] A ((fun _ : Unit => [(h0, .inr (0, [.ref a1, .ref a2, .int tk, .int ob, .int co, .ref a3, .int rc, .ref a4])), (a1, .inl (c1, 300, .inr (.inl ce))), (a2, .inl (c2, 16, .inl rg)), (a3, .inl (c3, 300, .inl re)), (a4, .inl (c4, 300, .inl np))]) u) t) A) args s 1 6 A = Q9
  have hl := lv_entry ([.ref h0, .int r, .int lk, .int n]) (n := 8) (Nat.le_of_ble_eq_true rfl)
  rw [show entryFrame m args 8 = _ from (congrArg (fun z => entryFrame m z 8) hargs).trans (lg_entry_eq m [.ref h0, .int r, .int lk, .int n] 8)]
  generalize (lg_sl ([.ref h0, .int r, .int lk, .int n]) ++ List.replicate (8 - (lg_sl ([.ref h0, .int r, .int lk, .int n])).length) Slot.unset).toArray = ls at hl ⊢
  have hl : lv_has ls 8 [(0, .ref h0), (1, .int r), (2, .int lk), (3, .int n)] := hl
  obtain ⟨H, hH⟩ : ∃ H, H = s.heap := ⟨_, rfl⟩
  rw [← hH] at hP
  have hS : va_S A s.heap H [] := by rw [hH]; exact hS
  rw [← hH]
  generalize ([] : List Loc) = locs at hS ⊢
  refine lv_iload_n hx hb dX0_make_0 rfl (lv_at hl 1 rfl) ?_
  by_cases hr1 : hp_bad r 16
  · skip
    refine hx_throws (vx_runS (As := [.int r]) (rest := []) ⟨hx, hb, hml, hown, hts⟩ (x_X0_checkRegister l hl9 dC dI _ hr1) (va_cwS 1 hts gw_X0_42 rfl rfl rfl ⟨by decide, by decide, by decide +kernel⟩ ⟨Nat.le_of_ble_eq_true rfl, Nat.le_of_ble_eq_true rfl⟩) ⟨hx_blind, hx_pay hx_P0 (hK.sub (tys' := []) [] rfl) hx_D0 hS hA hZ⟩ rfl rfl hl.1 rfl (lv_room (Nat.le_of_ble_eq_true rfl)) dX0_make_1 ⟨by decide, by decide⟩) hP hS hA (fun E ce9 q9 H locs hb9 hP hS h1 h2 h3 => ?_)
    subst hQ9
    exact vx_out (fun x hx => (hEx x hx).elim) hlocks h1 h2 h3 (fun t ht ha => ⟨(), trivial, ⟨hb9, by rw [ht]; exact hP, va_K.moved ha hK, hD⟩, hS.F ht⟩) hS.2.2 (Nat.le_of_ble_eq_true rfl) (Nat.le_of_ble_eq_true rfl)
  · skip
    refine hw_callN (W.runS (As := [.int r]) (rest := []) ⟨hx, hb, hml, hown, hts⟩ (c_X0_checkRegister l hr1) (va_cwS 1 hts gw_X0_42 rfl rfl rfl ⟨by decide, by decide, by decide +kernel⟩ ⟨Nat.le_of_ble_eq_true rfl, Nat.le_of_ble_eq_true rfl⟩) preEq rfl rfl hl.1 rfl (lv_room (Nat.le_of_ble_eq_true rfl)) dX0_make_1 ⟨by decide, by decide⟩) ?_
    refine lv_iload_n hx hb dX0_make_4 rfl (lv_at hl 3 rfl) ?_
    refine lv_bipush (v := 41) hx hb dX0_make_5 (by decide) ?_
    refine hx_throws (vx_runS (As := [.int n, .int 41]) (rest := []) ⟨hx, hb, hml, hown, hts⟩ (x_X0_checkBelow l hl9 dC dI _ (hbad.resolve_left hr1)) (va_cwS 2 hts gw_X0_46 rfl rfl rfl ⟨by decide, by decide, by decide +kernel⟩ ⟨Nat.le_of_ble_eq_true rfl, Nat.le_of_ble_eq_true rfl⟩) ⟨hx_blind, hx_pay hx_P0 (hK.sub (tys' := []) [] rfl) hx_D0 hS hA hZ⟩ rfl rfl hl.1 rfl (lv_room (Nat.le_of_ble_eq_true rfl)) dX0_make_7 ⟨by decide, by decide⟩) hP hS hA (fun E ce9 q9 H locs hb9 hP hS h1 h2 h3 => ?_)
    subst hQ9
    exact vx_out (fun x hx => (hEx x hx).elim) hlocks h1 h2 h3 (fun t ht ha => ⟨(), trivial, ⟨hb9, by rw [ht]; exact hP, va_K.moved ha hK, hD⟩, hS.F ht⟩) hS.2.2 (Nat.le_of_ble_eq_true rfl) (Nat.le_of_ble_eq_true rfl)

set_option maxHeartbeats 4000000 in
set_option maxRecDepth 100000 in
theorem c_X0_weak (l : Launch) (dC : Nat → ClassId) (dI : Nat → Nat → Nat) (h0 a1 a2 a3 a4 : Nat) (c1 c2 c3 c4 : ClassId) (ce : Nat → Int64) (rg : Nat → Int32) (tk ob co : Int32) (re : Nat → Int32) (rc : Int32) (np : Nat → Int32) (sz : Nat) (M : hp_S) (hW : hp_W M) (hC : hp_C M ce rg tk ob co) (j i : Nat) (hj : j < 16) (hi : i < 16) (h0n : hp_r M i ≠ 0) (hfit : hp_tk (hp_rm M 1) + (1 + 1) ≤ 300) : Met l yX0_weak wsX0_weak ({ frames := 6, cells := 0, slots := 0, locals := 134 }) (va_Pc [.ref h0, .int (nI j), .int (nI i)] (hw_pre (dC, dI) vwCl [(c1, .long), (c2, .int), (c3, .int), (c4, .int)] [(h0, .inr (0, [.ref a1, .ref a2, .int tk, .int ob, .int co, .ref a3, .int rc, .ref a4])), (a1, .inl (c1, 300, .inr (.inl ce))), (a2, .inl (c2, 16, .inl rg)), (a3, .inl (c3, 300, .inl re)), (a4, .inl (c4, 300, .inl np))] sz)) (va_Qi (fun (r : Int32) (u : (Nat → Int64) × (Nat → Int32) × Int32 × Int32 × Int32 × (Nat → Int32) × Int32 × (Nat → Int32)) => r = nI (hp_tk (hp_rm M 1)) ∧ ∀ o, o ∉ hp_L (hp_rm M 1) → 1 ≤ o → hp_C (hp_sr (hp_sl (hp_mk (hp_rm M 1) o 3 1) o 0 (hp_r M i)) j o) u.1 u.2.1 u.2.2.1 u.2.2.2.1 u.2.2.2.2.1) (fun u t => hw_B (dC, dI) vwCl [(c1, .long), (c2, .int), (c3, .int), (c4, .int)] (va_A [(h0, .inr (0, [.ref a1, .ref a2, .int tk, .int ob, .int co, .ref a3, .int rc, .ref a4])), (a1, .inl (c1, 300, .inr (.inl ce))), (a2, .inl (c2, 16, .inl rg)), (a3, .inl (c3, 300, .inl re)), (a4, .inl (c4, 300, .inl np))] sz) ((fun u : (Nat → Int64) × (Nat → Int32) × Int32 × Int32 × Int32 × (Nat → Int32) × Int32 × (Nat → Int32) => [(h0, .inr (0, [.ref a1, .ref a2, .int u.2.2.1, .int u.2.2.2.1, .int u.2.2.2.2.1, .ref a3, .int u.2.2.2.2.2.2.1, .ref a4])), (a1, .inl (c1, 300, .inr (.inl u.1))), (a2, .inl (c2, 16, .inl u.2.1)), (a3, .inl (c3, 300, .inl u.2.2.2.2.2.1)), (a4, .inl (c4, 300, .inl u.2.2.2.2.2.2.2))]) u) t) (va_A [(h0, .inr (0, [.ref a1, .ref a2, .int tk, .int ob, .int co, .ref a3, .int rc, .ref a4])), (a1, .inl (c1, 300, .inr (.inl ce))), (a2, .inl (c2, 16, .inl rg)), (a3, .inl (c3, 300, .inl re)), (a4, .inl (c4, 300, .inl np))] sz)) 0 0 (va_A [(h0, .inr (0, [.ref a1, .ref a2, .int tk, .int ob, .int co, .ref a3, .int rc, .ref a4])), (a1, .inl (c1, 300, .inr (.inl ce))), (a2, .inl (c2, 16, .inl rg)), (a3, .inl (c3, 300, .inl re)), (a4, .inl (c4, 300, .inl np))] sz) := by
  refine Met.ofW (cc := cX0_weak) (maxL := 4) (ret := some .int) (by decide) rfl ?_
  intro p e s m args below meth c s₁ B hml hv
  obtain ⟨hargs, hsz, hP, hK, hD0⟩ := hv
  have hx := B.exec
  have hb := B.bytes
  have hr := B.returns
  have hts : ∀ w ∈ wb, w.before _ s = true := fun w h => atoms_spec (ws := wsX0_weak) B.pre w (List.mem_cons_of_mem _ h)
  have hown : s.vm.findClass RX0 = some m.cls := findClass_of_methodNamed B.named
  have hlocks := B.notSynchronized
  subst hsz
  have hD := hD0.self (sz := s.heap.size)
  generalize hAe : va_A [(h0, .inr (0, [.ref a1, .ref a2, .int tk, .int ob, .int co, .ref a3, .int rc, .ref a4])), (a1, .inl (c1, 300, .inr (.inl ce))), (a2, .inl (c2, 16, .inl rg)), (a3, .inl (c3, 300, .inl re)), (a4, .inl (c4, 300, .inl np))] s.heap.size = A at hD ⊢
  have hA : ∀ q : Nat, s.heap.size ≤ q → A q := fun q h => by rw [← hAe]; exact Or.inr h
  have hS : va_S A s.heap s.heap [] := va_S.rf
  generalize hQ9 : MQ below (va_Qi (fun (r : Int32) (u : (Nat → Int64) × (Nat → Int32) × Int32 × Int32 × Int32 × (Nat → Int32) × Int32 × (Nat → Int32)) => r = nI (hp_tk (hp_rm M 1)) ∧ ∀ o, o ∉ hp_L (hp_rm M 1) → 1 ≤ o → hp_C (hp_sr (hp_sl (hp_mk (hp_rm M 1) o 3 1) o 0 (hp_r M i)) j o) u.1 u.2.1 u.2.2.1 u.2.2.2.1 u.2.2.2.2.1) (fun u t => hw_B (dC, dI) vwCl [(c1, .long), (c2, .int), (c3, .int), (c4, .int)] A ((fun u : (Nat → Int64) × (Nat → Int32) × Int32 × Int32 × Int32 × (Nat → Int32) × Int32 × (Nat → Int32) => [(h0, .inr (0, [.ref a1, .ref a2, .int u.2.2.1, .int u.2.2.2.1, .int u.2.2.2.2.1, .ref a3, .int u.2.2.2.2.2.2.1, .ref a4])), (a1, .inl (c1, 300, .inr (.inl u.1))), (a2, .inl (c2, 16, .inl u.2.1)), (a3, .inl (c3, 300, .inl u.2.2.2.2.2.1)), (a4, .inl (c4, 300, .inl u.2.2.2.2.2.2.2))]) u) t) A) args s 0 0 A = Q9
  have hl := lv_entry ([.ref h0, .int (nI j), .int (nI i)]) (n := 4) (Nat.le_of_ble_eq_true rfl)
  rw [show entryFrame m args 4 = _ from (congrArg (fun z => entryFrame m z 4) hargs).trans (lg_entry_eq m [.ref h0, .int (nI j), .int (nI i)] 4)]
  generalize (lg_sl ([.ref h0, .int (nI j), .int (nI i)]) ++ List.replicate (4 - (lg_sl ([.ref h0, .int (nI j), .int (nI i)])).length) Slot.unset).toArray = ls at hl ⊢
  have hl : lv_has ls 4 [(0, .ref h0), (1, .int (nI j)), (2, .int (nI i))] := hl
  obtain ⟨H, hH⟩ : ∃ H, H = s.heap := ⟨_, rfl⟩
  rw [← hH] at hP
  have hS : va_S A s.heap H [] := by rw [hH]; exact hS
  rw [← hH]
  generalize ([] : List Loc) = locs at hS ⊢
  have hW1 := hp_rm_W hW 1
  have hT1 := hW1.2.2.2.2.2
  refine lv_iload_n hx hb dX0_weak_0 rfl (lv_at hl 1 rfl) ?_
  refine hw_callN (W.runS (As := [.int (nI j)]) (rest := []) ⟨hx, hb, hml, hown, hts⟩ (c_X0_checkRegister l (hp_ok2 hj (by decide))) (va_cwS 1 hts gw_X0_42 rfl rfl rfl ⟨by decide, by decide, by decide +kernel⟩ ⟨Nat.le_of_ble_eq_true rfl, Nat.le_of_ble_eq_true rfl⟩) preEq rfl rfl hl.1 rfl (lv_room (Nat.le_of_ble_eq_true rfl)) dX0_weak_1 ⟨by decide, by decide⟩) ?_
  refine lv_iload_n hx hb dX0_weak_4 rfl (lv_at hl 2 rfl) ?_
  refine hw_callN (W.runS (As := [.int (nI i)]) (rest := []) ⟨hx, hb, hml, hown, hts⟩ (c_X0_checkRegister l (hp_ok2 hi (by decide))) (va_cwS 1 hts gw_X0_42 rfl rfl rfl ⟨by decide, by decide, by decide +kernel⟩ ⟨Nat.le_of_ble_eq_true rfl, Nat.le_of_ble_eq_true rfl⟩) preEq rfl rfl hl.1 rfl (lv_room (Nat.le_of_ble_eq_true rfl)) dX0_weak_5 ⟨by decide, by decide⟩) ?_
  refine lv_aload_n hx hb dX0_weak_8 rfl (lv_at hl 0 rfl) ?_
  refine va_get (D := (dC, dI)) (ci := 0) (v := .ref a2) (C := RX0) (T := TX0) (N := 8) hx hb hts inX0 hown hK hP 0 rfl rfl 1 (by decide) (hts _ bw_fl_X0_13) (fun _ h9 => h9) rfl dX0_weak_9 ?_
  refine lv_iload_n hx hb dX0_weak_12 rfl (lv_at hl 2 rfl) ?_
  refine hw_iald (j := i) hx hb hK hP 2 1 rfl rfl (rfl) (hi) (by decide) dX0_weak_13 ?_
  refine hw_callN (W.runS (As := [.int (rg i)]) (rest := []) ⟨hx, hb, hml, hown, hts⟩ (c_X0_checkNotNull l (fun h9 => h0n ((hp_null hW (hW.2.2.2.1 i hi)).mp ((hC.2.2.2.1 i hi).symm.trans h9)))) (va_cwS 1 hts gw_X0_56 rfl rfl rfl ⟨by decide, by decide, by decide +kernel⟩ ⟨Nat.le_of_ble_eq_true rfl, Nat.le_of_ble_eq_true rfl⟩) preEq rfl rfl hl.1 rfl (lv_room (Nat.le_of_ble_eq_true rfl)) dX0_weak_14 ⟨by decide, by decide⟩) ?_
  refine lv_aload_n hx hb dX0_weak_17 rfl (lv_at hl 0 rfl) ?_
  refine lv_iconst (v := 3) hx hb dX0_weak_18 (by decide) ?_
  refine lv_iconst (v := 1) hx hb dX0_weak_19 (by decide) ?_
  refine W.eq (g2 := F0 m 20 ls [.int (nI 1), .int (nI 3), .ref h0]) rfl ?_
  refine hw_calli (va_runV (As := [.int (nI 3), .int (nI 1)]) (rest := []) ⟨hx, hb, hml, hown, hts⟩ (c_X0_takeCells l dC dI h0 a1 a2 a3 a4 c1 c2 c3 c4 ce rg tk ob co re rc np _ M hW hC 3 1 (by decide) (by decide) hfit) (cwV 2 hts gw_X0_50 rfl rfl rfl ⟨rfl, by decide, by decide, by decide +kernel⟩ ⟨Nat.le_of_ble_eq_true rfl, Nat.le_of_ble_eq_true rfl⟩) ⟨hw_blind, va_recv (q0 := 0) (ci := 0) (q := (RX0, TX0, 8)) hK hP rfl rfl, hw_pay hP hK hD⟩ rfl rfl hl.1 rfl (lv_room (Nat.le_of_ble_eq_true rfl)) dX0_weak_20 ⟨by decide, by decide⟩) hD hS hA (fun r9 u9 H locs hw hP hD hS => ?_)
  obtain ⟨ce, rg, tk, ob, co, re, rc, np⟩ := u9
  have hP : va_P (dC, dI) vwCl [(h0, .inr (0, [.ref a1, .ref a2, .int tk, .int ob, .int co, .ref a3, .int rc, .ref a4])), (a1, .inl (c1, 300, .inr (.inl ce))), (a2, .inl (c2, 16, .inl rg)), (a3, .inl (c3, 300, .inl re)), (a4, .inl (c4, 300, .inl np))] H := hP
  have hD : va_D A [(h0, .inr (0, [.ref a1, .ref a2, .int tk, .int ob, .int co, .ref a3, .int rc, .ref a4])), (a1, .inl (c1, 300, .inr (.inl ce))), (a2, .inl (c2, 16, .inl rg)), (a3, .inl (c3, 300, .inl re)), (a4, .inl (c4, 300, .inl np))] := hD
  obtain ⟨hr9, ce1, tk1, ob1, hC1, hce, htk, hob⟩ := hw
  dsimp only at hce htk hob hC1
  refine hw_topi (y := nI (hp_tk (hp_rm M 1))) (hr9) ?_
  refine lv_istore_n hx hb dX0_weak_23 rfl hl (by decide) rfl (fun ls hl => ?_)
  have hl : lv_has ls 4 [(3, .int (nI (hp_tk (hp_rm M 1)))), (0, .ref h0), (1, .int (nI j)), (2, .int (nI i))] := hl
  refine lv_aload_n hx hb dX0_weak_24 rfl (lv_at hl 1 rfl) ?_
  refine va_get (D := (dC, dI)) (ci := 0) (v := .ref a1) (C := RX0) (T := TX0) (N := 8) hx hb hts inX0 hown hK hP 0 rfl rfl 0 (by decide) (hts _ bw_fl_X0_9) (fun _ h9 => h9) rfl dX0_weak_25 ?_
  refine lv_iload_n hx hb dX0_weak_28 rfl (lv_at hl 0 rfl) ?_
  refine lv_iconst (v := 1) hx hb dX0_weak_29 (by decide) ?_
  refine lv_iadd hx hb dX0_weak_30 ?_
  refine lv_aload_n hx hb dX0_weak_31 rfl (lv_at hl 1 rfl) ?_
  refine va_get (D := (dC, dI)) (ci := 0) (v := .ref a2) (C := RX0) (T := TX0) (N := 8) hx hb hts inX0 hown hK hP 0 rfl rfl 1 (by decide) (hts _ bw_fl_X0_13) (fun _ h9 => h9) rfl dX0_weak_32 ?_
  refine lv_iload_n hx hb dX0_weak_35 rfl (lv_at hl 3 rfl) ?_
  refine hw_iald (j := i) hx hb hK hP 2 1 rfl rfl (rfl) (hi) (by decide) dX0_weak_36 ?_
  refine hw_topi (y := hp_e (hp_rm M 1) (hp_r M i)) (by have h9 := hC1.2.2.2.1 i hi; rw [hp_rm_r] at h9; exact h9) ?_
  refine lv_i2l hx hb dX0_weak_37 rfl ?_
  refine hw_last (j := hp_tk (hp_rm M 1) + 1) hx hb hK hP hD hS 1 0 rfl rfl (nI_1 _) (by omega) (by decide) dX0_weak_38 (fun H locs hP hD hS => ?_)
  have hP : va_P (dC, dI) vwCl [(h0, .inr (0, [.ref a1, .ref a2, .int tk, .int ob, .int co, .ref a3, .int rc, .ref a4])), (a1, .inl (c1, 300, .inr (.inl (vp_updL ce (hp_tk (hp_rm M 1) + 1) ((hp_e (hp_rm M 1) (hp_r M i)).toInt64))))), (a2, .inl (c2, 16, .inl rg)), (a3, .inl (c3, 300, .inl re)), (a4, .inl (c4, 300, .inl np))] H := hP
  have hD : va_D A [(h0, .inr (0, [.ref a1, .ref a2, .int tk, .int ob, .int co, .ref a3, .int rc, .ref a4])), (a1, .inl (c1, 300, .inr (.inl (vp_updL ce (hp_tk (hp_rm M 1) + 1) ((hp_e (hp_rm M 1) (hp_r M i)).toInt64))))), (a2, .inl (c2, 16, .inl rg)), (a3, .inl (c3, 300, .inl re)), (a4, .inl (c4, 300, .inl np))] := hD
  refine lv_aload_n hx hb dX0_weak_39 rfl (lv_at hl 1 rfl) ?_
  refine va_get (D := (dC, dI)) (ci := 0) (v := .ref a2) (C := RX0) (T := TX0) (N := 8) hx hb hts inX0 hown hK hP 0 rfl rfl 1 (by decide) (hts _ bw_fl_X0_13) (fun _ h9 => h9) rfl dX0_weak_40 ?_
  refine lv_iload_n hx hb dX0_weak_43 rfl (lv_at hl 2 rfl) ?_
  refine lv_iload_n hx hb dX0_weak_44 rfl (lv_at hl 0 rfl) ?_
  refine hw_iast (j := j) hx hb hK hP hD hS 2 1 rfl rfl (rfl) (hj) (by decide) dX0_weak_45 (fun H locs hP hD hS => ?_)
  have hP : va_P (dC, dI) vwCl [(h0, .inr (0, [.ref a1, .ref a2, .int tk, .int ob, .int co, .ref a3, .int rc, .ref a4])), (a1, .inl (c1, 300, .inr (.inl (vp_updL ce (hp_tk (hp_rm M 1) + 1) ((hp_e (hp_rm M 1) (hp_r M i)).toInt64))))), (a2, .inl (c2, 16, .inl (upd rg j (nI (hp_tk (hp_rm M 1)))))), (a3, .inl (c3, 300, .inl re)), (a4, .inl (c4, 300, .inl np))] H := hP
  have hD : va_D A [(h0, .inr (0, [.ref a1, .ref a2, .int tk, .int ob, .int co, .ref a3, .int rc, .ref a4])), (a1, .inl (c1, 300, .inr (.inl (vp_updL ce (hp_tk (hp_rm M 1) + 1) ((hp_e (hp_rm M 1) (hp_r M i)).toInt64))))), (a2, .inl (c2, 16, .inl (upd rg j (nI (hp_tk (hp_rm M 1)))))), (a3, .inl (c3, 300, .inl re)), (a4, .inl (c4, 300, .inl np))] := hD
  refine lv_iload_n hx hb dX0_weak_46 rfl (lv_at hl 0 rfl) ?_
  subst hQ9
  exact W.iret (v := nI (hp_tk (hp_rm M 1))) hx hb hr (fun t ht hWm => ⟨⟨nI (hp_tk (hp_rm M 1)), ((vp_updL ce (hp_tk (hp_rm M 1) + 1) ((hp_e (hp_rm M 1) (hp_r M i)).toInt64)), (upd rg j (nI (hp_tk (hp_rm M 1)))), tk, ob, co, re, rc, np), rfl, ⟨rfl, fun o ho h1 => by rw [htk, hob, hce]; exact hp_wk_done hW1 hC1 (hp_r M i) (by have h9 := hW1.2.2.2.1 i hi; rw [hp_rm_r] at h9; exact h9) o ho h1⟩, by rw [ht]; exact hP, va_K.moved hWm.alike hK, hD⟩, hS.F ht⟩) hS.2.2 dX0_weak_47

set_option maxHeartbeats 4000000 in
set_option maxRecDepth 100000 in
theorem xf_X0_weak (l : Launch) (dC : Nat → ClassId) (dI : Nat → Nat → Nat) (h0 a1 a2 a3 a4 : Nat) (c1 c2 c3 c4 : ClassId) (ce : Nat → Int64) (rg : Nat → Int32) (tk ob co : Int32) (re : Nat → Int32) (rc : Int32) (np : Nat → Int32) (sz : Nat) (hl9 : l.stackTraces = false) (M : hp_S) (hW : hp_W M) (hC : hp_C M ce rg tk ob co) (j i : Nat) (hj : j < 16) (hi : i < 16) (h0n : hp_r M i ≠ 0) (hfull : ¬ hp_tk (hp_rm M 1) + (1 + 1) ≤ 300) : vx_Met l yX0_weak wsX0_weak ({ frames := 7, cells := 1, slots := 6, locals := 134 }) (va_Pc [.ref h0, .int (nI j), .int (nI i)] (hx_pre (dC, dI) vwCl [(c1, .long), (c2, .int), (c3, .int), (c4, .int)] [(h0, .inr (0, [.ref a1, .ref a2, .int tk, .int ob, .int co, .ref a3, .int rc, .ref a4])), (a1, .inl (c1, 300, .inr (.inl ce))), (a2, .inl (c2, 16, .inl rg)), (a3, .inl (c3, 300, .inl re)), (a4, .inl (c4, 300, .inl np))] sz)) (fun _ _ _ _ => False) (vx_X (fun _ : (Nat → Int64) × (Nat → Int32) × Int32 × Int32 × Int32 × (Nat → Int32) × Int32 × (Nat → Int32) => True) (fun E u t => (fun (E : String) (u : (Nat → Int64) × (Nat → Int32) × Int32 × Int32 × Int32 × (Nat → Int32) × Int32 × (Nat → Int32)) => E = hz_I ∧ hp_C (hp_rm M 1) u.1 u.2.1 u.2.2.1 u.2.2.2.1 u.2.2.2.2.1) E u ∧ hw_B (dC, dI) vwCl [(c1, .long), (c2, .int), (c3, .int), (c4, .int)] (va_A [(h0, .inr (0, [.ref a1, .ref a2, .int tk, .int ob, .int co, .ref a3, .int rc, .ref a4])), (a1, .inl (c1, 300, .inr (.inl ce))), (a2, .inl (c2, 16, .inl rg)), (a3, .inl (c3, 300, .inl re)), (a4, .inl (c4, 300, .inl np))] sz) ((fun u : (Nat → Int64) × (Nat → Int32) × Int32 × Int32 × Int32 × (Nat → Int32) × Int32 × (Nat → Int32) => [(h0, .inr (0, [.ref a1, .ref a2, .int u.2.2.1, .int u.2.2.2.1, .int u.2.2.2.2.1, .ref a3, .int u.2.2.2.2.2.2.1, .ref a4])), (a1, .inl (c1, 300, .inr (.inl u.1))), (a2, .inl (c2, 16, .inl u.2.1)), (a3, .inl (c3, 300, .inl u.2.2.2.2.2.1)), (a4, .inl (c4, 300, .inl u.2.2.2.2.2.2.2))]) u) t) (va_A [(h0, .inr (0, [.ref a1, .ref a2, .int tk, .int ob, .int co, .ref a3, .int rc, .ref a4])), (a1, .inl (c1, 300, .inr (.inl ce))), (a2, .inl (c2, 16, .inl rg)), (a3, .inl (c3, 300, .inl re)), (a4, .inl (c4, 300, .inl np))] sz)) 1 6 (va_A [(h0, .inr (0, [.ref a1, .ref a2, .int tk, .int ob, .int co, .ref a3, .int rc, .ref a4])), (a1, .inl (c1, 300, .inr (.inl ce))), (a2, .inl (c2, 16, .inl rg)), (a3, .inl (c3, 300, .inl re)), (a4, .inl (c4, 300, .inl np))] sz) := by
  refine vx_ofW (cc := cX0_weak) (maxL := 4) (ret := some .int) (by decide) rfl ?_
  intro p e s m args below meth c s₁ B hml hEx hv
  obtain ⟨hargs, hsz, hP, hK, hD0, hZ⟩ := hv
  have hx := B.exec
  have hb := B.bytes
  have hr := B.returns
  have hts : ∀ w ∈ wb, w.before _ s = true := fun w h => atoms_spec (ws := wsX0_weak) B.pre w (List.mem_cons_of_mem _ h)
  have hown : s.vm.findClass RX0 = some m.cls := findClass_of_methodNamed B.named
  have hlocks := B.notSynchronized
  subst hsz
  have hD := hD0.self (sz := s.heap.size)
  generalize hAe : va_A [(h0, .inr (0, [.ref a1, .ref a2, .int tk, .int ob, .int co, .ref a3, .int rc, .ref a4])), (a1, .inl (c1, 300, .inr (.inl ce))), (a2, .inl (c2, 16, .inl rg)), (a3, .inl (c3, 300, .inl re)), (a4, .inl (c4, 300, .inl np))] s.heap.size = A at hD hZ ⊢
  have hA : ∀ q : Nat, s.heap.size ≤ q → A q := fun q h => by rw [← hAe]; exact Or.inr h
  have hS : va_S A s.heap s.heap [] := va_S.rf
  generalize hQ9 : vx_MQ below (fun _ _ _ _ => False) (vx_X (fun _ : (Nat → Int64) × (Nat → Int32) × Int32 × Int32 × Int32 × (Nat → Int32) × Int32 × (Nat → Int32) => True) (fun E u t => (fun (E : String) (u : (Nat → Int64) × (Nat → Int32) × Int32 × Int32 × Int32 × (Nat → Int32) × Int32 × (Nat → Int32)) => E = hz_I ∧ hp_C (hp_rm M 1) u.1 u.2.1 u.2.2.1 u.2.2.2.1 u.2.2.2.2.1) E u ∧ hw_B (dC, dI) vwCl [(c1, .long), (c2, .int), (c3, .int), (c4, .int)] A ((fun u : (Nat → Int64) × (Nat → Int32) × Int32 × Int32 × Int32 × (Nat → Int32) × Int32 × (Nat → Int32) => [(h0, .inr (0, [.ref a1, .ref a2, .int u.2.2.1, .int u.2.2.2.1, .int u.2.2.2.2.1, .ref a3, .int u.2.2.2.2.2.2.1, .ref a4])), (a1, .inl (c1, 300, .inr (.inl u.1))), (a2, .inl (c2, 16, .inl u.2.1)), (a3, .inl (c3, 300, .inl u.2.2.2.2.2.1)), (a4, .inl (c4, 300, .inl u.2.2.2.2.2.2.2))]) u) t) A) args s 1 6 A = Q9
  have hl := lv_entry ([.ref h0, .int (nI j), .int (nI i)]) (n := 4) (Nat.le_of_ble_eq_true rfl)
  rw [show entryFrame m args 4 = _ from (congrArg (fun z => entryFrame m z 4) hargs).trans (lg_entry_eq m [.ref h0, .int (nI j), .int (nI i)] 4)]
  generalize (lg_sl ([.ref h0, .int (nI j), .int (nI i)]) ++ List.replicate (4 - (lg_sl ([.ref h0, .int (nI j), .int (nI i)])).length) Slot.unset).toArray = ls at hl ⊢
  have hl : lv_has ls 4 [(0, .ref h0), (1, .int (nI j)), (2, .int (nI i))] := hl
  obtain ⟨H, hH⟩ : ∃ H, H = s.heap := ⟨_, rfl⟩
  rw [← hH] at hP
  have hS : va_S A s.heap H [] := by rw [hH]; exact hS
  rw [← hH]
  generalize ([] : List Loc) = locs at hS ⊢
  refine lv_iload_n hx hb dX0_weak_0 rfl (lv_at hl 1 rfl) ?_
  refine hw_callN (W.runS (As := [.int (nI j)]) (rest := []) ⟨hx, hb, hml, hown, hts⟩ (c_X0_checkRegister l (hp_ok2 hj (by decide))) (va_cwS 1 hts gw_X0_42 rfl rfl rfl ⟨by decide, by decide, by decide +kernel⟩ ⟨Nat.le_of_ble_eq_true rfl, Nat.le_of_ble_eq_true rfl⟩) preEq rfl rfl hl.1 rfl (lv_room (Nat.le_of_ble_eq_true rfl)) dX0_weak_1 ⟨by decide, by decide⟩) ?_
  refine lv_iload_n hx hb dX0_weak_4 rfl (lv_at hl 2 rfl) ?_
  refine hw_callN (W.runS (As := [.int (nI i)]) (rest := []) ⟨hx, hb, hml, hown, hts⟩ (c_X0_checkRegister l (hp_ok2 hi (by decide))) (va_cwS 1 hts gw_X0_42 rfl rfl rfl ⟨by decide, by decide, by decide +kernel⟩ ⟨Nat.le_of_ble_eq_true rfl, Nat.le_of_ble_eq_true rfl⟩) preEq rfl rfl hl.1 rfl (lv_room (Nat.le_of_ble_eq_true rfl)) dX0_weak_5 ⟨by decide, by decide⟩) ?_
  refine lv_aload_n hx hb dX0_weak_8 rfl (lv_at hl 0 rfl) ?_
  refine va_get (D := (dC, dI)) (ci := 0) (v := .ref a2) (C := RX0) (T := TX0) (N := 8) hx hb hts inX0 hown hK hP 0 rfl rfl 1 (by decide) (hts _ bw_fl_X0_13) (fun _ h9 => h9) rfl dX0_weak_9 ?_
  refine lv_iload_n hx hb dX0_weak_12 rfl (lv_at hl 2 rfl) ?_
  refine hw_iald (j := i) hx hb hK hP 2 1 rfl rfl (rfl) (hi) (by decide) dX0_weak_13 ?_
  refine hw_callN (W.runS (As := [.int (rg i)]) (rest := []) ⟨hx, hb, hml, hown, hts⟩ (c_X0_checkNotNull l (fun h9 => h0n ((hp_null hW (hW.2.2.2.1 i hi)).mp ((hC.2.2.2.1 i hi).symm.trans h9)))) (va_cwS 1 hts gw_X0_56 rfl rfl rfl ⟨by decide, by decide, by decide +kernel⟩ ⟨Nat.le_of_ble_eq_true rfl, Nat.le_of_ble_eq_true rfl⟩) preEq rfl rfl hl.1 rfl (lv_room (Nat.le_of_ble_eq_true rfl)) dX0_weak_14 ⟨by decide, by decide⟩) ?_
  refine lv_aload_n hx hb dX0_weak_17 rfl (lv_at hl 0 rfl) ?_
  refine lv_iconst (v := 3) hx hb dX0_weak_18 (by decide) ?_
  refine lv_iconst (v := 1) hx hb dX0_weak_19 (by decide) ?_
  refine W.eq (g2 := F0 m 20 ls [.int (nI 1), .int (nI 3), .ref h0]) rfl ?_
  refine hx_throwsW (vx_runV (As := [.int (nI 3), .int (nI 1)]) (rest := []) ⟨hx, hb, hml, hown, hts⟩ (x_X0_takeCells l dC dI h0 a1 a2 a3 a4 c1 c2 c3 c4 ce rg tk ob co re rc np _ hl9 M hW hC 3 1 (by decide) (by decide) hfull) (cwV 2 hts gw_X0_50 rfl rfl rfl ⟨rfl, by decide, by decide, by decide +kernel⟩ ⟨Nat.le_of_ble_eq_true rfl, Nat.le_of_ble_eq_true rfl⟩) ⟨hx_blind, va_recv (q0 := 0) (ci := 0) (q := (RX0, TX0, 8)) hK hP rfl rfl, hx_pay hP hK hD hS hA hZ⟩ rfl rfl hl.1 rfl (lv_room (Nat.le_of_ble_eq_true rfl)) dX0_weak_20 ⟨by decide, by decide⟩) hD hS hA (fun E ce9 q9 u9 H locs hb9 hP hD hS h1 h2 h3 => ?_)
  subst hQ9
  exact vx_out (fun x hx => (hEx x hx).elim) hlocks h1 h2 h3 (fun t ht ha => ⟨u9, trivial, ⟨hb9, by rw [ht]; exact hP, va_K.moved ha hK, hD⟩, hS.F ht⟩) hS.2.2 (Nat.le_of_ble_eq_true rfl) (Nat.le_of_ble_eq_true rfl)

set_option maxHeartbeats 4000000 in
set_option maxRecDepth 100000 in
theorem x_X0_weak (l : Launch) (dC : Nat → ClassId) (dI : Nat → Nat → Nat) (h0 a1 a2 a3 a4 : Nat) (c1 c2 c3 c4 : ClassId) (ce : Nat → Int64) (rg : Nat → Int32) (tk ob co : Int32) (re : Nat → Int32) (rc : Int32) (np : Nat → Int32) (sz : Nat) (hl9 : l.stackTraces = false) (M : hp_S) (hW : hp_W M) (hC : hp_C M ce rg tk ob co) (r y : Int32) (hbad : hp_bad r 16 ∨ hp_bad y 16 ∨ hp_at M y = 0) : vx_Met l yX0_weak wsX0_weak ({ frames := 8, cells := 1, slots := 6, locals := 131 }) (va_Pc [.ref h0, .int r, .int y] (hx_pre (dC, dI) vwCl [(c1, .long), (c2, .int), (c3, .int), (c4, .int)] [(h0, .inr (0, [.ref a1, .ref a2, .int tk, .int ob, .int co, .ref a3, .int rc, .ref a4])), (a1, .inl (c1, 300, .inr (.inl ce))), (a2, .inl (c2, 16, .inl rg)), (a3, .inl (c3, 300, .inl re)), (a4, .inl (c4, 300, .inl np))] sz)) (fun _ _ _ _ => False) (vx_X (fun _ : Unit => True) (fun E u t => (fun (E : String) (_ : Unit) => (E = hz_A ∧ (hp_bad r 16 ∨ hp_bad y 16)) ∨ (E = hz_N ∧ ¬ (hp_bad r 16 ∨ hp_bad y 16))) E u ∧ hw_B (dC, dI) vwCl [(c1, .long), (c2, .int), (c3, .int), (c4, .int)] (va_A [(h0, .inr (0, [.ref a1, .ref a2, .int tk, .int ob, .int co, .ref a3, .int rc, .ref a4])), (a1, .inl (c1, 300, .inr (.inl ce))), (a2, .inl (c2, 16, .inl rg)), (a3, .inl (c3, 300, .inl re)), (a4, .inl (c4, 300, .inl np))] sz) ((fun _ : Unit => [(h0, .inr (0, [.ref a1, .ref a2, .int tk, .int ob, .int co, .ref a3, .int rc, .ref a4])), (a1, .inl (c1, 300, .inr (.inl ce))), (a2, .inl (c2, 16, .inl rg)), (a3, .inl (c3, 300, .inl re)), (a4, .inl (c4, 300, .inl np))]) u) t) (va_A [(h0, .inr (0, [.ref a1, .ref a2, .int tk, .int ob, .int co, .ref a3, .int rc, .ref a4])), (a1, .inl (c1, 300, .inr (.inl ce))), (a2, .inl (c2, 16, .inl rg)), (a3, .inl (c3, 300, .inl re)), (a4, .inl (c4, 300, .inl np))] sz)) 1 6 (va_A [(h0, .inr (0, [.ref a1, .ref a2, .int tk, .int ob, .int co, .ref a3, .int rc, .ref a4])), (a1, .inl (c1, 300, .inr (.inl ce))), (a2, .inl (c2, 16, .inl rg)), (a3, .inl (c3, 300, .inl re)), (a4, .inl (c4, 300, .inl np))] sz) := by
  refine vx_ofW (cc := cX0_weak) (maxL := 4) (ret := some .int) (by decide) rfl ?_
  intro p e s m args below meth c s₁ B hml hEx hv
  obtain ⟨hargs, hsz, hP, hK, hD0, hZ⟩ := hv
  have hx := B.exec
  have hb := B.bytes
  have hr := B.returns
  have hts : ∀ w ∈ wb, w.before _ s = true := fun w h => atoms_spec (ws := wsX0_weak) B.pre w (List.mem_cons_of_mem _ h)
  have hown : s.vm.findClass RX0 = some m.cls := findClass_of_methodNamed B.named
  have hlocks := B.notSynchronized
  subst hsz
  have hD := hD0.self (sz := s.heap.size)
  generalize hAe : va_A [(h0, .inr (0, [.ref a1, .ref a2, .int tk, .int ob, .int co, .ref a3, .int rc, .ref a4])), (a1, .inl (c1, 300, .inr (.inl ce))), (a2, .inl (c2, 16, .inl rg)), (a3, .inl (c3, 300, .inl re)), (a4, .inl (c4, 300, .inl np))] s.heap.size = A at hD hZ ⊢
  have hA : ∀ q : Nat, s.heap.size ≤ q → A q := fun q h => by rw [← hAe]; exact Or.inr h
  have hS : va_S A s.heap s.heap [] := va_S.rf
  generalize hQ9 : vx_MQ below (fun _ _ _ _ => False) (vx_X (fun _ : Unit => True) (fun E u t => (fun (E : String) (_ : Unit) => (E = hz_A ∧ (hp_bad r 16 ∨ hp_bad y 16)) ∨ (E = hz_N ∧ ¬ (hp_bad r 16 ∨ hp_bad y 16))) E u ∧ hw_B (dC, dI) vwCl [(c1, .long), (c2, .int), (c3, .int), (c4, .int)] A ((fun _ : Unit => [(h0, .inr (0, [.ref a1, .ref a2, .int tk, .int ob, .int co, .ref a3, .int rc, .ref a4])), (a1, .inl (c1, 300, .inr (.inl ce))), (a2, .inl (c2, 16, .inl rg)), (a3, .inl (c3, 300, .inl re)), (a4, .inl (c4, 300, .inl np))]) u) t) A) args s 1 6 A = Q9
  have hl := lv_entry ([.ref h0, .int r, .int y]) (n := 4) (Nat.le_of_ble_eq_true rfl)
  rw [show entryFrame m args 4 = _ from (congrArg (fun z => entryFrame m z 4) hargs).trans (lg_entry_eq m [.ref h0, .int r, .int y] 4)]
  generalize (lg_sl ([.ref h0, .int r, .int y]) ++ List.replicate (4 - (lg_sl ([.ref h0, .int r, .int y])).length) Slot.unset).toArray = ls at hl ⊢
  have hl : lv_has ls 4 [(0, .ref h0), (1, .int r), (2, .int y)] := hl
  obtain ⟨H, hH⟩ : ∃ H, H = s.heap := ⟨_, rfl⟩
  rw [← hH] at hP
  have hS : va_S A s.heap H [] := by rw [hH]; exact hS
  rw [← hH]
  generalize ([] : List Loc) = locs at hS ⊢
  refine lv_iload_n hx hb dX0_weak_0 rfl (lv_at hl 1 rfl) ?_
  by_cases hr1 : hp_bad r 16
  · skip
    refine hx_throws (vx_runS (As := [.int r]) (rest := []) ⟨hx, hb, hml, hown, hts⟩ (x_X0_checkRegister l hl9 dC dI _ hr1) (va_cwS 1 hts gw_X0_42 rfl rfl rfl ⟨by decide, by decide, by decide +kernel⟩ ⟨Nat.le_of_ble_eq_true rfl, Nat.le_of_ble_eq_true rfl⟩) ⟨hx_blind, hx_pay hx_P0 (hK.sub (tys' := []) [] rfl) hx_D0 hS hA hZ⟩ rfl rfl hl.1 rfl (lv_room (Nat.le_of_ble_eq_true rfl)) dX0_weak_1 ⟨by decide, by decide⟩) hP hS hA (fun E ce9 q9 H locs hb9 hP hS h1 h2 h3 => ?_)
    subst hQ9
    exact vx_out (fun x hx => (hEx x hx).elim) hlocks h1 h2 h3 (fun t ht ha => ⟨(), trivial, ⟨Or.inl ⟨hb9, Or.inl hr1⟩, by rw [ht]; exact hP, va_K.moved ha hK, hD⟩, hS.F ht⟩) hS.2.2 (Nat.le_of_ble_eq_true rfl) (Nat.le_of_ble_eq_true rfl)
  · skip
    refine hw_callN (W.runS (As := [.int r]) (rest := []) ⟨hx, hb, hml, hown, hts⟩ (c_X0_checkRegister l hr1) (va_cwS 1 hts gw_X0_42 rfl rfl rfl ⟨by decide, by decide, by decide +kernel⟩ ⟨Nat.le_of_ble_eq_true rfl, Nat.le_of_ble_eq_true rfl⟩) preEq rfl rfl hl.1 rfl (lv_room (Nat.le_of_ble_eq_true rfl)) dX0_weak_1 ⟨by decide, by decide⟩) ?_
    refine lv_iload_n hx hb dX0_weak_4 rfl (lv_at hl 2 rfl) ?_
    by_cases ht1 : hp_bad y 16
    · skip
      refine hx_throws (vx_runS (As := [.int y]) (rest := []) ⟨hx, hb, hml, hown, hts⟩ (x_X0_checkRegister l hl9 dC dI _ ht1) (va_cwS 1 hts gw_X0_42 rfl rfl rfl ⟨by decide, by decide, by decide +kernel⟩ ⟨Nat.le_of_ble_eq_true rfl, Nat.le_of_ble_eq_true rfl⟩) ⟨hx_blind, hx_pay hx_P0 (hK.sub (tys' := []) [] rfl) hx_D0 hS hA hZ⟩ rfl rfl hl.1 rfl (lv_room (Nat.le_of_ble_eq_true rfl)) dX0_weak_5 ⟨by decide, by decide⟩) hP hS hA (fun E ce9 q9 H locs hb9 hP hS h1 h2 h3 => ?_)
      subst hQ9
      exact vx_out (fun x hx => (hEx x hx).elim) hlocks h1 h2 h3 (fun t ht ha => ⟨(), trivial, ⟨Or.inl ⟨hb9, Or.inr ht1⟩, by rw [ht]; exact hP, va_K.moved ha hK, hD⟩, hS.F ht⟩) hS.2.2 (Nat.le_of_ble_eq_true rfl) (Nat.le_of_ble_eq_true rfl)
    · skip
      refine hw_callN (W.runS (As := [.int y]) (rest := []) ⟨hx, hb, hml, hown, hts⟩ (c_X0_checkRegister l ht1) (va_cwS 1 hts gw_X0_42 rfl rfl rfl ⟨by decide, by decide, by decide +kernel⟩ ⟨Nat.le_of_ble_eq_true rfl, Nat.le_of_ble_eq_true rfl⟩) preEq rfl rfl hl.1 rfl (lv_room (Nat.le_of_ble_eq_true rfl)) dX0_weak_5 ⟨by decide, by decide⟩) ?_
      have hnb : ¬ (hp_bad r 16 ∨ hp_bad y 16) := fun h9 => h9.elim hr1 ht1
      have hat := (hbad.resolve_left hr1).resolve_left ht1
      obtain ⟨i, hi, hti⟩ := hp_ok' ht1
      rw [hti, hp_at_n hi] at hat
      refine lv_aload_n hx hb dX0_weak_8 rfl (lv_at hl 0 rfl) ?_
      refine va_get (D := (dC, dI)) (ci := 0) (v := .ref a2) (C := RX0) (T := TX0) (N := 8) hx hb hts inX0 hown hK hP 0 rfl rfl 1 (by decide) (hts _ bw_fl_X0_13) (fun _ h9 => h9) rfl dX0_weak_9 ?_
      refine lv_iload_n hx hb dX0_weak_12 rfl (lv_at hl 2 rfl) ?_
      refine hw_iald (j := i) hx hb hK hP 2 1 rfl rfl (hti) (hi) (by decide) dX0_weak_13 ?_
      refine hx_throws (vx_runS (As := [.int (rg i)]) (rest := []) ⟨hx, hb, hml, hown, hts⟩ (x_X0_checkNotNull l hl9 dC dI _ ((hC.2.2.2.1 i hi).trans (by rw [hat]; exact hp_e0 M))) (va_cwS 1 hts gw_X0_56 rfl rfl rfl ⟨by decide, by decide, by decide +kernel⟩ ⟨Nat.le_of_ble_eq_true rfl, Nat.le_of_ble_eq_true rfl⟩) ⟨hx_blind, hx_pay hx_P0 (hK.sub (tys' := []) [] rfl) hx_D0 hS hA hZ⟩ rfl rfl hl.1 rfl (lv_room (Nat.le_of_ble_eq_true rfl)) dX0_weak_14 ⟨by decide, by decide⟩) hP hS hA (fun E ce9 q9 H locs hb9 hP hS h1 h2 h3 => ?_)
      subst hQ9
      exact vx_out (fun x hx => (hEx x hx).elim) hlocks h1 h2 h3 (fun t ht ha => ⟨(), trivial, ⟨Or.inr ⟨hb9, hnb⟩, by rw [ht]; exact hP, va_K.moved ha hK, hD⟩, hS.F ht⟩) hS.2.2 (Nat.le_of_ble_eq_true rfl) (Nat.le_of_ble_eq_true rfl)
