set_option maxHeartbeats 4000000 in
set_option maxRecDepth 100000 in
theorem x_X0_link (l : Launch) (dC : Nat → ClassId) (dI : Nat → Nat → Nat) (h0 a1 a2 a3 a4 : Nat) (c1 c2 c3 c4 : ClassId) (ce : Nat → Int64) (rg : Nat → Int32) (tk ob co : Int32) (re : Nat → Int32) (rc : Int32) (np : Nat → Int32) (sz : Nat) (hl9 : l.stackTraces = false) (M : hp_S) (hW : hp_W M) (hC : hp_C M ce rg tk ob co) (r i t : Int32) (k : Nat) (hk : hp_lk M (hp_bad r 16 ∨ hp_bad t 16) (hp_at M r) i (hp_k M (hp_at M r) = 1) k) (hk0 : k ≠ 0) : vx_Met l yX0_link wsX0_link ({ frames := 8, cells := 1, slots := 6, locals := 131 }) (va_Pc [.ref h0, .int r, .int i, .int t] (hx_pre (dC, dI) vwCl [(c1, .long), (c2, .int), (c3, .int), (c4, .int)] [(h0, .inr (0, [.ref a1, .ref a2, .int tk, .int ob, .int co, .ref a3, .int rc, .ref a4])), (a1, .inl (c1, 300, .inr (.inl ce))), (a2, .inl (c2, 16, .inl rg)), (a3, .inl (c3, 300, .inl re)), (a4, .inl (c4, 300, .inl np))] sz)) (fun _ _ _ _ => False) (vx_X (fun _ : Unit => True) (fun E u t => (fun (E : String) (_ : Unit) => hp_E2 E k) E u ∧ hw_B (dC, dI) vwCl [(c1, .long), (c2, .int), (c3, .int), (c4, .int)] (va_A [(h0, .inr (0, [.ref a1, .ref a2, .int tk, .int ob, .int co, .ref a3, .int rc, .ref a4])), (a1, .inl (c1, 300, .inr (.inl ce))), (a2, .inl (c2, 16, .inl rg)), (a3, .inl (c3, 300, .inl re)), (a4, .inl (c4, 300, .inl np))] sz) ((fun _ : Unit => [(h0, .inr (0, [.ref a1, .ref a2, .int tk, .int ob, .int co, .ref a3, .int rc, .ref a4])), (a1, .inl (c1, 300, .inr (.inl ce))), (a2, .inl (c2, 16, .inl rg)), (a3, .inl (c3, 300, .inl re)), (a4, .inl (c4, 300, .inl np))]) u) t) (va_A [(h0, .inr (0, [.ref a1, .ref a2, .int tk, .int ob, .int co, .ref a3, .int rc, .ref a4])), (a1, .inl (c1, 300, .inr (.inl ce))), (a2, .inl (c2, 16, .inl rg)), (a3, .inl (c3, 300, .inl re)), (a4, .inl (c4, 300, .inl np))] sz)) 1 6 (va_A [(h0, .inr (0, [.ref a1, .ref a2, .int tk, .int ob, .int co, .ref a3, .int rc, .ref a4])), (a1, .inl (c1, 300, .inr (.inl ce))), (a2, .inl (c2, 16, .inl rg)), (a3, .inl (c3, 300, .inl re)), (a4, .inl (c4, 300, .inl np))] sz) := by
  refine vx_ofW (cc := cX0_link) (maxL := 5) (ret := none) (by decide) rfl ?_
  intro p e s m args below meth c s₁ B hml hEx hv
  obtain ⟨hargs, hsz, hP, hK, hD0, hZ⟩ := hv
  have hx := B.exec
  have hb := B.bytes
  have hr := B.returns
  have hts : ∀ w ∈ wb, w.before _ s = true := fun w h => atoms_spec (ws := wsX0_link) B.pre w (List.mem_cons_of_mem _ h)
  have hown : s.vm.findClass RX0 = some m.cls := findClass_of_methodNamed B.named
  have hlocks := B.notSynchronized
  subst hsz
  have hD := hD0.self (sz := s.heap.size)
  generalize hAe : va_A [(h0, .inr (0, [.ref a1, .ref a2, .int tk, .int ob, .int co, .ref a3, .int rc, .ref a4])), (a1, .inl (c1, 300, .inr (.inl ce))), (a2, .inl (c2, 16, .inl rg)), (a3, .inl (c3, 300, .inl re)), (a4, .inl (c4, 300, .inl np))] s.heap.size = A at hD hZ ⊢
  have hA : ∀ q : Nat, s.heap.size ≤ q → A q := fun q h => by rw [← hAe]; exact Or.inr h
  have hS : va_S A s.heap s.heap [] := va_S.rf
  generalize hQ9 : vx_MQ below (fun _ _ _ _ => False) (vx_X (fun _ : Unit => True) (fun E u t => (fun (E : String) (_ : Unit) => hp_E2 E k) E u ∧ hw_B (dC, dI) vwCl [(c1, .long), (c2, .int), (c3, .int), (c4, .int)] A ((fun _ : Unit => [(h0, .inr (0, [.ref a1, .ref a2, .int tk, .int ob, .int co, .ref a3, .int rc, .ref a4])), (a1, .inl (c1, 300, .inr (.inl ce))), (a2, .inl (c2, 16, .inl rg)), (a3, .inl (c3, 300, .inl re)), (a4, .inl (c4, 300, .inl np))]) u) t) A) args s 1 6 A = Q9
  have hl := lv_entry ([.ref h0, .int r, .int i, .int t]) (n := 5) (Nat.le_of_ble_eq_true rfl)
  rw [show entryFrame m args 5 = _ from (congrArg (fun z => entryFrame m z 5) hargs).trans (lg_entry_eq m [.ref h0, .int r, .int i, .int t] 5)]
  generalize (lg_sl ([.ref h0, .int r, .int i, .int t]) ++ List.replicate (5 - (lg_sl ([.ref h0, .int r, .int i, .int t])).length) Slot.unset).toArray = ls at hl ⊢
  have hl : lv_has ls 5 [(0, .ref h0), (1, .int r), (2, .int i), (3, .int t)] := hl
  obtain ⟨H, hH⟩ : ∃ H, H = s.heap := ⟨_, rfl⟩
  rw [← hH] at hP
  have hS : va_S A s.heap H [] := by rw [hH]; exact hS
  rw [← hH]
  generalize ([] : List Loc) = locs at hS ⊢
  refine lv_iload_n hx hb dX0_link_0 rfl (lv_at hl 1 rfl) ?_
  by_cases hr1 : hp_bad r 16
  · skip
    refine hx_throws (vx_runS (As := [.int r]) (rest := []) ⟨hx, hb, hml, hown, hts⟩ (x_X0_checkRegister l hl9 dC dI _ hr1) (va_cwS 1 hts gw_X0_42 rfl rfl rfl ⟨by decide, by decide, by decide +kernel⟩ ⟨Nat.le_of_ble_eq_true rfl, Nat.le_of_ble_eq_true rfl⟩) ⟨hx_blind, hx_pay hx_P0 (hK.sub (tys' := []) [] rfl) hx_D0 hS hA hZ⟩ rfl rfl hl.1 rfl (lv_room (Nat.le_of_ble_eq_true rfl)) dX0_link_1 ⟨by decide, by decide⟩) hP hS hA (fun E ce9 q9 H locs hb9 hP hS h1 h2 h3 => ?_)
    subst hQ9
    exact vx_out (fun x hx => (hEx x hx).elim) hlocks h1 h2 h3 (fun t ht ha => ⟨(), trivial, ⟨Or.inl ⟨hb9, (hk.resolve_right (fun h9 => h9.1 (Or.inl hr1))).2⟩, by rw [ht]; exact hP, va_K.moved ha hK, hD⟩, hS.F ht⟩) hS.2.2 (Nat.le_of_ble_eq_true rfl) (Nat.le_of_ble_eq_true rfl)
  · skip
    refine hw_callN (W.runS (As := [.int r]) (rest := []) ⟨hx, hb, hml, hown, hts⟩ (c_X0_checkRegister l hr1) (va_cwS 1 hts gw_X0_42 rfl rfl rfl ⟨by decide, by decide, by decide +kernel⟩ ⟨Nat.le_of_ble_eq_true rfl, Nat.le_of_ble_eq_true rfl⟩) preEq rfl rfl hl.1 rfl (lv_room (Nat.le_of_ble_eq_true rfl)) dX0_link_1 ⟨by decide, by decide⟩) ?_
    refine lv_iload_n hx hb dX0_link_4 rfl (lv_at hl 3 rfl) ?_
    by_cases ht1 : hp_bad t 16
    · skip
      refine hx_throws (vx_runS (As := [.int t]) (rest := []) ⟨hx, hb, hml, hown, hts⟩ (x_X0_checkRegister l hl9 dC dI _ ht1) (va_cwS 1 hts gw_X0_42 rfl rfl rfl ⟨by decide, by decide, by decide +kernel⟩ ⟨Nat.le_of_ble_eq_true rfl, Nat.le_of_ble_eq_true rfl⟩) ⟨hx_blind, hx_pay hx_P0 (hK.sub (tys' := []) [] rfl) hx_D0 hS hA hZ⟩ rfl rfl hl.1 rfl (lv_room (Nat.le_of_ble_eq_true rfl)) dX0_link_5 ⟨by decide, by decide⟩) hP hS hA (fun E ce9 q9 H locs hb9 hP hS h1 h2 h3 => ?_)
      subst hQ9
      exact vx_out (fun x hx => (hEx x hx).elim) hlocks h1 h2 h3 (fun t ht ha => ⟨(), trivial, ⟨Or.inl ⟨hb9, (hk.resolve_right (fun h9 => h9.1 (Or.inr ht1))).2⟩, by rw [ht]; exact hP, va_K.moved ha hK, hD⟩, hS.F ht⟩) hS.2.2 (Nat.le_of_ble_eq_true rfl) (Nat.le_of_ble_eq_true rfl)
    · skip
      refine hw_callN (W.runS (As := [.int t]) (rest := []) ⟨hx, hb, hml, hown, hts⟩ (c_X0_checkRegister l ht1) (va_cwS 1 hts gw_X0_42 rfl rfl rfl ⟨by decide, by decide, by decide +kernel⟩ ⟨Nat.le_of_ble_eq_true rfl, Nat.le_of_ble_eq_true rfl⟩) preEq rfl rfl hl.1 rfl (lv_room (Nat.le_of_ble_eq_true rfl)) dX0_link_5 ⟨by decide, by decide⟩) ?_
      have hcd := (hk.resolve_left (fun h9 => h9.1.elim hr1 ht1)).2
      obtain ⟨j, hj, rfl⟩ := hp_ok' hr1
      rw [hp_at_n hj] at hcd
      refine lv_aload_n hx hb dX0_link_8 rfl (lv_at hl 0 rfl) ?_
      refine va_get (D := (dC, dI)) (ci := 0) (v := .ref a2) (C := RX0) (T := TX0) (N := 8) hx hb hts inX0 hown hK hP 0 rfl rfl 1 (by decide) (hts _ bw_fl_X0_13) (fun _ h9 => h9) rfl dX0_link_9 ?_
      refine lv_iload_n hx hb dX0_link_12 rfl (lv_at hl 1 rfl) ?_
      refine hw_iald (j := j) hx hb hK hP 2 1 rfl rfl (rfl) (hj) (by decide) dX0_link_13 ?_
      refine hw_topi (y := hp_e M (hp_r M j)) (hC.2.2.2.1 j hj) ?_
      refine lv_istore hx hb dX0_link_14 hl (by decide) rfl (fun ls hl => ?_)
      have hl : lv_has ls 5 [(4, .int (hp_e M (hp_r M j))), (0, .ref h0), (1, .int (nI j)), (2, .int i), (3, .int t)] := hl
      refine lv_iload hx hb dX0_link_16 (lv_at hl 0 rfl) ?_
      by_cases h00 : hp_r M j = 0
      · skip
        refine hx_throws (vx_runS (As := [.int (hp_e M (hp_r M j))]) (rest := []) ⟨hx, hb, hml, hown, hts⟩ (x_X0_checkNotNull l hl9 dC dI _ ((hp_null hW (hW.2.2.2.1 j hj)).mpr h00)) (va_cwS 1 hts gw_X0_56 rfl rfl rfl ⟨by decide, by decide, by decide +kernel⟩ ⟨Nat.le_of_ble_eq_true rfl, Nat.le_of_ble_eq_true rfl⟩) ⟨hx_blind, hx_pay hx_P0 (hK.sub (tys' := []) [] rfl) hx_D0 hS hA hZ⟩ rfl rfl hl.1 rfl (lv_room (Nat.le_of_ble_eq_true rfl)) dX0_link_18 ⟨by decide, by decide⟩) hP hS hA (fun E ce9 q9 H locs hb9 hP hS h1 h2 h3 => ?_)
        subst hQ9
        exact vx_out (fun x hx => (hEx x hx).elim) hlocks h1 h2 h3 (fun t ht ha => ⟨(), trivial, ⟨Or.inr ⟨hb9, hp_cd_0 h00 hcd⟩, by rw [ht]; exact hP, va_K.moved ha hK, hD⟩, hS.F ht⟩) hS.2.2 (Nat.le_of_ble_eq_true rfl) (Nat.le_of_ble_eq_true rfl)
      · skip
        have hoL := (hW.2.2.2.1 j hj).resolve_left h00
        have hcell := hC.2.2.2.2 _ hoL
        have hlt := hp_pl_lt hW hoL
        have hz9 := (hW.2.1 _ hoL).2.2.2.2.1
        refine hw_callN (W.runS (As := [.int (hp_e M (hp_r M j))]) (rest := []) ⟨hx, hb, hml, hown, hts⟩ (c_X0_checkNotNull l (fun h9 => h00 ((hp_null hW (hW.2.2.2.1 j hj)).mp h9))) (va_cwS 1 hts gw_X0_56 rfl rfl rfl ⟨by decide, by decide, by decide +kernel⟩ ⟨Nat.le_of_ble_eq_true rfl, Nat.le_of_ble_eq_true rfl⟩) preEq rfl rfl hl.1 rfl (lv_room (Nat.le_of_ble_eq_true rfl)) dX0_link_18 ⟨by decide, by decide⟩) ?_
        refine lv_aload_n hx hb dX0_link_21 rfl (lv_at hl 1 rfl) ?_
        refine lv_iload hx hb dX0_link_22 (lv_at hl 0 rfl) ?_
        refine hw_topi (y := nI (hp_pl M (hp_r M j))) (hp_en h00) ?_
        refine W.callR (W.runV (As := [.int (nI (hp_pl M (hp_r M j)))]) (rest := []) ⟨hx, hb, hml, hown, hts⟩ (c_X0_kindAt l dC dI h0 a1 a2 a3 a4 c1 c2 c3 c4 ce rg tk ob co re rc np _ (by omega)) (cwV 1 hts gw_X0_59 rfl rfl rfl ⟨rfl, by decide, by decide, by decide +kernel⟩ ⟨Nat.le_of_ble_eq_true rfl, Nat.le_of_ble_eq_true rfl⟩) ⟨hw_blind, va_recv (q0 := 0) (ci := 0) (q := (RX0, TX0, 8)) hK hP rfl rfl, hw_pay hP hK hD⟩ rfl rfl hl.1 rfl (lv_room (Nat.le_of_ble_eq_true rfl)) dX0_link_24 ⟨by decide, by decide⟩) ?_
        refine W.eq (g2 := F0 m 27 ls [.int ((ce (hp_pl M (hp_r M j))).toInt32 &&& 3)]) rfl ?_
        refine hw_topi (y := nI (hp_k M (hp_r M j))) (hp_rkind hW hoL hcell.1) ?_
        refine lv_iconst (v := 1) hx hb dX0_link_27 (by decide) ?_
        refine lv_icmp_ne hx hb dX0_link_28 (tgt := 35) (by decide) (fun hc => ?_) (fun hc => ?_)
        · have hkk : ¬ hp_k M (hp_r M j) = 1 := fun h9 => hc (by rw [h9]; decide)
          refine lv_iconst (v := 0) hx hb dX0_link_35 (by decide) ?_
          refine hx_throws (vx_runS (As := [.int 0]) (rest := []) ⟨hx, hb, hml, hown, hts⟩ (x_X0_checkKind l hl9 dC dI _ ) (va_cwS 1 hts gw_X0_63 rfl rfl rfl ⟨by decide, by decide, by decide +kernel⟩ ⟨Nat.le_of_ble_eq_true rfl, Nat.le_of_ble_eq_true rfl⟩) ⟨hx_blind, hx_pay hx_P0 (hK.sub (tys' := []) [] rfl) hx_D0 hS hA hZ⟩ rfl rfl hl.1 rfl (lv_room (Nat.le_of_ble_eq_true rfl)) dX0_link_36 ⟨by decide, by decide⟩) hP hS hA (fun E ce9 q9 H locs hb9 hP hS h1 h2 h3 => ?_)
          subst hQ9
          exact vx_out (fun x hx => (hEx x hx).elim) hlocks h1 h2 h3 (fun t ht ha => ⟨(), trivial, ⟨Or.inl ⟨hb9, hp_cd_1 h00 (Or.inl hkk) hcd⟩, by rw [ht]; exact hP, va_K.moved ha hK, hD⟩, hS.F ht⟩) hS.2.2 (Nat.le_of_ble_eq_true rfl) (Nat.le_of_ble_eq_true rfl)
        · have hkk : hp_k M (hp_r M j) = 1 := (hp_k1 hW hoL (n := 1) (by decide)).mp hc
          refine lv_iconst (v := 1) hx hb dX0_link_31 (by decide) ?_
          refine lv_goto hx hb dX0_link_32 (tgt := 36) (by decide) ?_
          refine hw_callN (W.runS (As := [.int 1]) (rest := []) ⟨hx, hb, hml, hown, hts⟩ (c_X0_checkKind l ) (va_cwS 1 hts gw_X0_63 rfl rfl rfl ⟨by decide, by decide, by decide +kernel⟩ ⟨Nat.le_of_ble_eq_true rfl, Nat.le_of_ble_eq_true rfl⟩) preEq rfl rfl hl.1 rfl (lv_room (Nat.le_of_ble_eq_true rfl)) dX0_link_36 ⟨by decide, by decide⟩) ?_
          refine lv_iload_n hx hb dX0_link_39 rfl (lv_at hl 3 rfl) ?_
          refine lv_aload_n hx hb dX0_link_40 rfl (lv_at hl 1 rfl) ?_
          refine lv_iload hx hb dX0_link_41 (lv_at hl 0 rfl) ?_
          refine hw_topi (y := nI (hp_pl M (hp_r M j))) (hp_en h00) ?_
          refine W.callR (W.runV (As := [.int (nI (hp_pl M (hp_r M j)))]) (rest := [.int i]) ⟨hx, hb, hml, hown, hts⟩ (c_X0_lengthAt l dC dI h0 a1 a2 a3 a4 c1 c2 c3 c4 ce rg tk ob co re rc np _ (by omega)) (cwV 1 hts gw_X0_67 rfl rfl rfl ⟨rfl, by decide, by decide, by decide +kernel⟩ ⟨Nat.le_of_ble_eq_true rfl, Nat.le_of_ble_eq_true rfl⟩) ⟨hw_blind, va_recv (q0 := 0) (ci := 0) (q := (RX0, TX0, 8)) hK hP rfl rfl, hw_pay hP hK hD⟩ rfl rfl hl.1 rfl (lv_room (Nat.le_of_ble_eq_true rfl)) dX0_link_43 ⟨by decide, by decide⟩) ?_
          refine W.eq (g2 := F0 m 46 ls [.int ((ce (hp_pl M (hp_r M j))).toInt32 >>> ((2 : Int32) &&& 31)), .int i]) rfl ?_
          refine hw_topi (y := nI (hp_z M (hp_r M j))) (hp_rlen hW hoL hcell.1) ?_
          by_cases hq1 : hp_bad i (hp_z M (hp_r M j))
          · skip
            refine hx_throws (vx_runS (As := [.int i, .int (nI (hp_z M (hp_r M j)))]) (rest := []) ⟨hx, hb, hml, hown, hts⟩ (x_X0_checkBelow l hl9 dC dI _ hq1) (va_cwS 2 hts gw_X0_46 rfl rfl rfl ⟨by decide, by decide, by decide +kernel⟩ ⟨Nat.le_of_ble_eq_true rfl, Nat.le_of_ble_eq_true rfl⟩) ⟨hx_blind, hx_pay hx_P0 (hK.sub (tys' := []) [] rfl) hx_D0 hS hA hZ⟩ rfl rfl hl.1 rfl (lv_room (Nat.le_of_ble_eq_true rfl)) dX0_link_46 ⟨by decide, by decide⟩) hP hS hA (fun E ce9 q9 H locs hb9 hP hS h1 h2 h3 => ?_)
            subst hQ9
            exact vx_out (fun x hx => (hEx x hx).elim) hlocks h1 h2 h3 (fun t ht ha => ⟨(), trivial, ⟨Or.inl ⟨hb9, hp_cd_1 h00 (Or.inr hq1) hcd⟩, by rw [ht]; exact hP, va_K.moved ha hK, hD⟩, hS.F ht⟩) hS.2.2 (Nat.le_of_ble_eq_true rfl) (Nat.le_of_ble_eq_true rfl)
          · skip
            refine hw_callN (W.runS (As := [.int i, .int (nI (hp_z M (hp_r M j)))]) (rest := []) ⟨hx, hb, hml, hown, hts⟩ (c_X0_checkBelow l hq1) (va_cwS 2 hts gw_X0_46 rfl rfl rfl ⟨by decide, by decide, by decide +kernel⟩ ⟨Nat.le_of_ble_eq_true rfl, Nat.le_of_ble_eq_true rfl⟩) preEq rfl rfl hl.1 rfl (lv_room (Nat.le_of_ble_eq_true rfl)) dX0_link_46 ⟨by decide, by decide⟩) ?_
            exact absurd (hp_cd_ok h00 hkk hq1 hcd) hk0

set_option maxHeartbeats 4000000 in
set_option maxRecDepth 100000 in
theorem x_X0_follow (l : Launch) (dC : Nat → ClassId) (dI : Nat → Nat → Nat) (h0 a1 a2 a3 a4 : Nat) (c1 c2 c3 c4 : ClassId) (ce : Nat → Int64) (rg : Nat → Int32) (tk ob co : Int32) (re : Nat → Int32) (rc : Int32) (np : Nat → Int32) (sz : Nat) (hl9 : l.stackTraces = false) (M : hp_S) (hW : hp_W M) (hC : hp_C M ce rg tk ob co) (r i t : Int32) (k : Nat) (hk : hp_lk M (hp_bad r 16 ∨ hp_bad t 16) (hp_at M t) i (hp_k M (hp_at M t) ≠ 2) k) (hk0 : k ≠ 0) : vx_Met l yX0_follow wsX0_follow ({ frames := 8, cells := 1, slots := 6, locals := 131 }) (va_Pc [.ref h0, .int r, .int t, .int i] (hx_pre (dC, dI) vwCl [(c1, .long), (c2, .int), (c3, .int), (c4, .int)] [(h0, .inr (0, [.ref a1, .ref a2, .int tk, .int ob, .int co, .ref a3, .int rc, .ref a4])), (a1, .inl (c1, 300, .inr (.inl ce))), (a2, .inl (c2, 16, .inl rg)), (a3, .inl (c3, 300, .inl re)), (a4, .inl (c4, 300, .inl np))] sz)) (fun _ _ _ _ => False) (vx_X (fun _ : Unit => True) (fun E u t => (fun (E : String) (_ : Unit) => hp_E2 E k) E u ∧ hw_B (dC, dI) vwCl [(c1, .long), (c2, .int), (c3, .int), (c4, .int)] (va_A [(h0, .inr (0, [.ref a1, .ref a2, .int tk, .int ob, .int co, .ref a3, .int rc, .ref a4])), (a1, .inl (c1, 300, .inr (.inl ce))), (a2, .inl (c2, 16, .inl rg)), (a3, .inl (c3, 300, .inl re)), (a4, .inl (c4, 300, .inl np))] sz) ((fun _ : Unit => [(h0, .inr (0, [.ref a1, .ref a2, .int tk, .int ob, .int co, .ref a3, .int rc, .ref a4])), (a1, .inl (c1, 300, .inr (.inl ce))), (a2, .inl (c2, 16, .inl rg)), (a3, .inl (c3, 300, .inl re)), (a4, .inl (c4, 300, .inl np))]) u) t) (va_A [(h0, .inr (0, [.ref a1, .ref a2, .int tk, .int ob, .int co, .ref a3, .int rc, .ref a4])), (a1, .inl (c1, 300, .inr (.inl ce))), (a2, .inl (c2, 16, .inl rg)), (a3, .inl (c3, 300, .inl re)), (a4, .inl (c4, 300, .inl np))] sz)) 1 6 (va_A [(h0, .inr (0, [.ref a1, .ref a2, .int tk, .int ob, .int co, .ref a3, .int rc, .ref a4])), (a1, .inl (c1, 300, .inr (.inl ce))), (a2, .inl (c2, 16, .inl rg)), (a3, .inl (c3, 300, .inl re)), (a4, .inl (c4, 300, .inl np))] sz) := by
  refine vx_ofW (cc := cX0_follow) (maxL := 5) (ret := none) (by decide) rfl ?_
  intro p e s m args below meth c s₁ B hml hEx hv
  obtain ⟨hargs, hsz, hP, hK, hD0, hZ⟩ := hv
  have hx := B.exec
  have hb := B.bytes
  have hr := B.returns
  have hts : ∀ w ∈ wb, w.before _ s = true := fun w h => atoms_spec (ws := wsX0_follow) B.pre w (List.mem_cons_of_mem _ h)
  have hown : s.vm.findClass RX0 = some m.cls := findClass_of_methodNamed B.named
  have hlocks := B.notSynchronized
  subst hsz
  have hD := hD0.self (sz := s.heap.size)
  generalize hAe : va_A [(h0, .inr (0, [.ref a1, .ref a2, .int tk, .int ob, .int co, .ref a3, .int rc, .ref a4])), (a1, .inl (c1, 300, .inr (.inl ce))), (a2, .inl (c2, 16, .inl rg)), (a3, .inl (c3, 300, .inl re)), (a4, .inl (c4, 300, .inl np))] s.heap.size = A at hD hZ ⊢
  have hA : ∀ q : Nat, s.heap.size ≤ q → A q := fun q h => by rw [← hAe]; exact Or.inr h
  have hS : va_S A s.heap s.heap [] := va_S.rf
  generalize hQ9 : vx_MQ below (fun _ _ _ _ => False) (vx_X (fun _ : Unit => True) (fun E u t => (fun (E : String) (_ : Unit) => hp_E2 E k) E u ∧ hw_B (dC, dI) vwCl [(c1, .long), (c2, .int), (c3, .int), (c4, .int)] A ((fun _ : Unit => [(h0, .inr (0, [.ref a1, .ref a2, .int tk, .int ob, .int co, .ref a3, .int rc, .ref a4])), (a1, .inl (c1, 300, .inr (.inl ce))), (a2, .inl (c2, 16, .inl rg)), (a3, .inl (c3, 300, .inl re)), (a4, .inl (c4, 300, .inl np))]) u) t) A) args s 1 6 A = Q9
  have hl := lv_entry ([.ref h0, .int r, .int t, .int i]) (n := 5) (Nat.le_of_ble_eq_true rfl)
  rw [show entryFrame m args 5 = _ from (congrArg (fun z => entryFrame m z 5) hargs).trans (lg_entry_eq m [.ref h0, .int r, .int t, .int i] 5)]
  generalize (lg_sl ([.ref h0, .int r, .int t, .int i]) ++ List.replicate (5 - (lg_sl ([.ref h0, .int r, .int t, .int i])).length) Slot.unset).toArray = ls at hl ⊢
  have hl : lv_has ls 5 [(0, .ref h0), (1, .int r), (2, .int t), (3, .int i)] := hl
  obtain ⟨H, hH⟩ : ∃ H, H = s.heap := ⟨_, rfl⟩
  rw [← hH] at hP
  have hS : va_S A s.heap H [] := by rw [hH]; exact hS
  rw [← hH]
  generalize ([] : List Loc) = locs at hS ⊢
  refine lv_iload_n hx hb dX0_follow_0 rfl (lv_at hl 1 rfl) ?_
  by_cases hr1 : hp_bad r 16
  · skip
    refine hx_throws (vx_runS (As := [.int r]) (rest := []) ⟨hx, hb, hml, hown, hts⟩ (x_X0_checkRegister l hl9 dC dI _ hr1) (va_cwS 1 hts gw_X0_42 rfl rfl rfl ⟨by decide, by decide, by decide +kernel⟩ ⟨Nat.le_of_ble_eq_true rfl, Nat.le_of_ble_eq_true rfl⟩) ⟨hx_blind, hx_pay hx_P0 (hK.sub (tys' := []) [] rfl) hx_D0 hS hA hZ⟩ rfl rfl hl.1 rfl (lv_room (Nat.le_of_ble_eq_true rfl)) dX0_follow_1 ⟨by decide, by decide⟩) hP hS hA (fun E ce9 q9 H locs hb9 hP hS h1 h2 h3 => ?_)
    subst hQ9
    exact vx_out (fun x hx => (hEx x hx).elim) hlocks h1 h2 h3 (fun t ht ha => ⟨(), trivial, ⟨Or.inl ⟨hb9, (hk.resolve_right (fun h9 => h9.1 (Or.inl hr1))).2⟩, by rw [ht]; exact hP, va_K.moved ha hK, hD⟩, hS.F ht⟩) hS.2.2 (Nat.le_of_ble_eq_true rfl) (Nat.le_of_ble_eq_true rfl)
  · skip
    refine hw_callN (W.runS (As := [.int r]) (rest := []) ⟨hx, hb, hml, hown, hts⟩ (c_X0_checkRegister l hr1) (va_cwS 1 hts gw_X0_42 rfl rfl rfl ⟨by decide, by decide, by decide +kernel⟩ ⟨Nat.le_of_ble_eq_true rfl, Nat.le_of_ble_eq_true rfl⟩) preEq rfl rfl hl.1 rfl (lv_room (Nat.le_of_ble_eq_true rfl)) dX0_follow_1 ⟨by decide, by decide⟩) ?_
    refine lv_iload_n hx hb dX0_follow_4 rfl (lv_at hl 2 rfl) ?_
    by_cases ht1 : hp_bad t 16
    · skip
      refine hx_throws (vx_runS (As := [.int t]) (rest := []) ⟨hx, hb, hml, hown, hts⟩ (x_X0_checkRegister l hl9 dC dI _ ht1) (va_cwS 1 hts gw_X0_42 rfl rfl rfl ⟨by decide, by decide, by decide +kernel⟩ ⟨Nat.le_of_ble_eq_true rfl, Nat.le_of_ble_eq_true rfl⟩) ⟨hx_blind, hx_pay hx_P0 (hK.sub (tys' := []) [] rfl) hx_D0 hS hA hZ⟩ rfl rfl hl.1 rfl (lv_room (Nat.le_of_ble_eq_true rfl)) dX0_follow_5 ⟨by decide, by decide⟩) hP hS hA (fun E ce9 q9 H locs hb9 hP hS h1 h2 h3 => ?_)
      subst hQ9
      exact vx_out (fun x hx => (hEx x hx).elim) hlocks h1 h2 h3 (fun t ht ha => ⟨(), trivial, ⟨Or.inl ⟨hb9, (hk.resolve_right (fun h9 => h9.1 (Or.inr ht1))).2⟩, by rw [ht]; exact hP, va_K.moved ha hK, hD⟩, hS.F ht⟩) hS.2.2 (Nat.le_of_ble_eq_true rfl) (Nat.le_of_ble_eq_true rfl)
    · skip
      refine hw_callN (W.runS (As := [.int t]) (rest := []) ⟨hx, hb, hml, hown, hts⟩ (c_X0_checkRegister l ht1) (va_cwS 1 hts gw_X0_42 rfl rfl rfl ⟨by decide, by decide, by decide +kernel⟩ ⟨Nat.le_of_ble_eq_true rfl, Nat.le_of_ble_eq_true rfl⟩) preEq rfl rfl hl.1 rfl (lv_room (Nat.le_of_ble_eq_true rfl)) dX0_follow_5 ⟨by decide, by decide⟩) ?_
      have hcd := (hk.resolve_left (fun h9 => h9.1.elim hr1 ht1)).2
      obtain ⟨j, hj, rfl⟩ := hp_ok' ht1
      rw [hp_at_n hj] at hcd
      refine lv_aload_n hx hb dX0_follow_8 rfl (lv_at hl 0 rfl) ?_
      refine va_get (D := (dC, dI)) (ci := 0) (v := .ref a2) (C := RX0) (T := TX0) (N := 8) hx hb hts inX0 hown hK hP 0 rfl rfl 1 (by decide) (hts _ bw_fl_X0_13) (fun _ h9 => h9) rfl dX0_follow_9 ?_
      refine lv_iload_n hx hb dX0_follow_12 rfl (lv_at hl 2 rfl) ?_
      refine hw_iald (j := j) hx hb hK hP 2 1 rfl rfl (rfl) (hj) (by decide) dX0_follow_13 ?_
      refine hw_topi (y := hp_e M (hp_r M j)) (hC.2.2.2.1 j hj) ?_
      refine lv_istore hx hb dX0_follow_14 hl (by decide) rfl (fun ls hl => ?_)
      have hl : lv_has ls 5 [(4, .int (hp_e M (hp_r M j))), (0, .ref h0), (1, .int r), (2, .int (nI j)), (3, .int i)] := hl
      refine lv_iload hx hb dX0_follow_16 (lv_at hl 0 rfl) ?_
      by_cases h00 : hp_r M j = 0
      · skip
        refine hx_throws (vx_runS (As := [.int (hp_e M (hp_r M j))]) (rest := []) ⟨hx, hb, hml, hown, hts⟩ (x_X0_checkNotNull l hl9 dC dI _ ((hp_null hW (hW.2.2.2.1 j hj)).mpr h00)) (va_cwS 1 hts gw_X0_56 rfl rfl rfl ⟨by decide, by decide, by decide +kernel⟩ ⟨Nat.le_of_ble_eq_true rfl, Nat.le_of_ble_eq_true rfl⟩) ⟨hx_blind, hx_pay hx_P0 (hK.sub (tys' := []) [] rfl) hx_D0 hS hA hZ⟩ rfl rfl hl.1 rfl (lv_room (Nat.le_of_ble_eq_true rfl)) dX0_follow_18 ⟨by decide, by decide⟩) hP hS hA (fun E ce9 q9 H locs hb9 hP hS h1 h2 h3 => ?_)
        subst hQ9
        exact vx_out (fun x hx => (hEx x hx).elim) hlocks h1 h2 h3 (fun t ht ha => ⟨(), trivial, ⟨Or.inr ⟨hb9, hp_cd_0 h00 hcd⟩, by rw [ht]; exact hP, va_K.moved ha hK, hD⟩, hS.F ht⟩) hS.2.2 (Nat.le_of_ble_eq_true rfl) (Nat.le_of_ble_eq_true rfl)
      · skip
        have hoL := (hW.2.2.2.1 j hj).resolve_left h00
        have hcell := hC.2.2.2.2 _ hoL
        have hlt := hp_pl_lt hW hoL
        have hz9 := (hW.2.1 _ hoL).2.2.2.2.1
        refine hw_callN (W.runS (As := [.int (hp_e M (hp_r M j))]) (rest := []) ⟨hx, hb, hml, hown, hts⟩ (c_X0_checkNotNull l (fun h9 => h00 ((hp_null hW (hW.2.2.2.1 j hj)).mp h9))) (va_cwS 1 hts gw_X0_56 rfl rfl rfl ⟨by decide, by decide, by decide +kernel⟩ ⟨Nat.le_of_ble_eq_true rfl, Nat.le_of_ble_eq_true rfl⟩) preEq rfl rfl hl.1 rfl (lv_room (Nat.le_of_ble_eq_true rfl)) dX0_follow_18 ⟨by decide, by decide⟩) ?_
        refine lv_aload_n hx hb dX0_follow_21 rfl (lv_at hl 1 rfl) ?_
        refine lv_iload hx hb dX0_follow_22 (lv_at hl 0 rfl) ?_
        refine hw_topi (y := nI (hp_pl M (hp_r M j))) (hp_en h00) ?_
        refine W.callR (W.runV (As := [.int (nI (hp_pl M (hp_r M j)))]) (rest := []) ⟨hx, hb, hml, hown, hts⟩ (c_X0_kindAt l dC dI h0 a1 a2 a3 a4 c1 c2 c3 c4 ce rg tk ob co re rc np _ (by omega)) (cwV 1 hts gw_X0_59 rfl rfl rfl ⟨rfl, by decide, by decide, by decide +kernel⟩ ⟨Nat.le_of_ble_eq_true rfl, Nat.le_of_ble_eq_true rfl⟩) ⟨hw_blind, va_recv (q0 := 0) (ci := 0) (q := (RX0, TX0, 8)) hK hP rfl rfl, hw_pay hP hK hD⟩ rfl rfl hl.1 rfl (lv_room (Nat.le_of_ble_eq_true rfl)) dX0_follow_24 ⟨by decide, by decide⟩) ?_
        refine W.eq (g2 := F0 m 27 ls [.int ((ce (hp_pl M (hp_r M j))).toInt32 &&& 3)]) rfl ?_
        refine hw_topi (y := nI (hp_k M (hp_r M j))) (hp_rkind hW hoL hcell.1) ?_
        refine lv_iconst (v := 2) hx hb dX0_follow_27 (by decide) ?_
        refine lv_icmp_eq hx hb dX0_follow_28 (tgt := 35) (by decide) (fun hc => ?_) (fun hc => ?_)
        · have hkk : ¬ hp_k M (hp_r M j) ≠ 2 := fun h9 => h9 ((hp_k1 hW hoL (n := 2) (by decide)).mp hc)
          refine lv_iconst (v := 0) hx hb dX0_follow_35 (by decide) ?_
          refine hx_throws (vx_runS (As := [.int 0]) (rest := []) ⟨hx, hb, hml, hown, hts⟩ (x_X0_checkKind l hl9 dC dI _ ) (va_cwS 1 hts gw_X0_63 rfl rfl rfl ⟨by decide, by decide, by decide +kernel⟩ ⟨Nat.le_of_ble_eq_true rfl, Nat.le_of_ble_eq_true rfl⟩) ⟨hx_blind, hx_pay hx_P0 (hK.sub (tys' := []) [] rfl) hx_D0 hS hA hZ⟩ rfl rfl hl.1 rfl (lv_room (Nat.le_of_ble_eq_true rfl)) dX0_follow_36 ⟨by decide, by decide⟩) hP hS hA (fun E ce9 q9 H locs hb9 hP hS h1 h2 h3 => ?_)
          subst hQ9
          exact vx_out (fun x hx => (hEx x hx).elim) hlocks h1 h2 h3 (fun t ht ha => ⟨(), trivial, ⟨Or.inl ⟨hb9, hp_cd_1 h00 (Or.inl hkk) hcd⟩, by rw [ht]; exact hP, va_K.moved ha hK, hD⟩, hS.F ht⟩) hS.2.2 (Nat.le_of_ble_eq_true rfl) (Nat.le_of_ble_eq_true rfl)
        · have hkk : hp_k M (hp_r M j) ≠ 2 := fun h9 => hc (by rw [h9]; decide)
          refine lv_iconst (v := 1) hx hb dX0_follow_31 (by decide) ?_
          refine lv_goto hx hb dX0_follow_32 (tgt := 36) (by decide) ?_
          refine hw_callN (W.runS (As := [.int 1]) (rest := []) ⟨hx, hb, hml, hown, hts⟩ (c_X0_checkKind l ) (va_cwS 1 hts gw_X0_63 rfl rfl rfl ⟨by decide, by decide, by decide +kernel⟩ ⟨Nat.le_of_ble_eq_true rfl, Nat.le_of_ble_eq_true rfl⟩) preEq rfl rfl hl.1 rfl (lv_room (Nat.le_of_ble_eq_true rfl)) dX0_follow_36 ⟨by decide, by decide⟩) ?_
          refine lv_iload_n hx hb dX0_follow_39 rfl (lv_at hl 4 rfl) ?_
          refine lv_aload_n hx hb dX0_follow_40 rfl (lv_at hl 1 rfl) ?_
          refine lv_iload hx hb dX0_follow_41 (lv_at hl 0 rfl) ?_
          refine hw_topi (y := nI (hp_pl M (hp_r M j))) (hp_en h00) ?_
          refine W.callR (W.runV (As := [.int (nI (hp_pl M (hp_r M j)))]) (rest := [.int i]) ⟨hx, hb, hml, hown, hts⟩ (c_X0_lengthAt l dC dI h0 a1 a2 a3 a4 c1 c2 c3 c4 ce rg tk ob co re rc np _ (by omega)) (cwV 1 hts gw_X0_67 rfl rfl rfl ⟨rfl, by decide, by decide, by decide +kernel⟩ ⟨Nat.le_of_ble_eq_true rfl, Nat.le_of_ble_eq_true rfl⟩) ⟨hw_blind, va_recv (q0 := 0) (ci := 0) (q := (RX0, TX0, 8)) hK hP rfl rfl, hw_pay hP hK hD⟩ rfl rfl hl.1 rfl (lv_room (Nat.le_of_ble_eq_true rfl)) dX0_follow_43 ⟨by decide, by decide⟩) ?_
          refine W.eq (g2 := F0 m 46 ls [.int ((ce (hp_pl M (hp_r M j))).toInt32 >>> ((2 : Int32) &&& 31)), .int i]) rfl ?_
          refine hw_topi (y := nI (hp_z M (hp_r M j))) (hp_rlen hW hoL hcell.1) ?_
          by_cases hq1 : hp_bad i (hp_z M (hp_r M j))
          · skip
            refine hx_throws (vx_runS (As := [.int i, .int (nI (hp_z M (hp_r M j)))]) (rest := []) ⟨hx, hb, hml, hown, hts⟩ (x_X0_checkBelow l hl9 dC dI _ hq1) (va_cwS 2 hts gw_X0_46 rfl rfl rfl ⟨by decide, by decide, by decide +kernel⟩ ⟨Nat.le_of_ble_eq_true rfl, Nat.le_of_ble_eq_true rfl⟩) ⟨hx_blind, hx_pay hx_P0 (hK.sub (tys' := []) [] rfl) hx_D0 hS hA hZ⟩ rfl rfl hl.1 rfl (lv_room (Nat.le_of_ble_eq_true rfl)) dX0_follow_46 ⟨by decide, by decide⟩) hP hS hA (fun E ce9 q9 H locs hb9 hP hS h1 h2 h3 => ?_)
            subst hQ9
            exact vx_out (fun x hx => (hEx x hx).elim) hlocks h1 h2 h3 (fun t ht ha => ⟨(), trivial, ⟨Or.inl ⟨hb9, hp_cd_1 h00 (Or.inr hq1) hcd⟩, by rw [ht]; exact hP, va_K.moved ha hK, hD⟩, hS.F ht⟩) hS.2.2 (Nat.le_of_ble_eq_true rfl) (Nat.le_of_ble_eq_true rfl)
          · skip
            refine hw_callN (W.runS (As := [.int i, .int (nI (hp_z M (hp_r M j)))]) (rest := []) ⟨hx, hb, hml, hown, hts⟩ (c_X0_checkBelow l hq1) (va_cwS 2 hts gw_X0_46 rfl rfl rfl ⟨by decide, by decide, by decide +kernel⟩ ⟨Nat.le_of_ble_eq_true rfl, Nat.le_of_ble_eq_true rfl⟩) preEq rfl rfl hl.1 rfl (lv_room (Nat.le_of_ble_eq_true rfl)) dX0_follow_46 ⟨by decide, by decide⟩) ?_
            exact absurd (hp_cd_ok h00 hkk hq1 hcd) hk0

set_option maxHeartbeats 4000000 in
set_option maxRecDepth 100000 in
theorem x_X0_numberCell (l : Launch) (dC : Nat → ClassId) (dI : Nat → Nat → Nat) (h0 a1 a2 a3 a4 : Nat) (c1 c2 c3 c4 : ClassId) (ce : Nat → Int64) (rg : Nat → Int32) (tk ob co : Int32) (re : Nat → Int32) (rc : Int32) (np : Nat → Int32) (sz : Nat) (hl9 : l.stackTraces = false) (M : hp_S) (hW : hp_W M) (hC : hp_C M ce rg tk ob co) (r i : Int32) (k : Nat) (hk : hp_lk M (hp_bad r 16) (hp_at M r) i (hp_k M (hp_at M r) = 2) k) (hk0 : k ≠ 0) : vx_Met l yX0_numberCell wsX0_numberCell ({ frames := 8, cells := 1, slots := 6, locals := 131 }) (va_Pc [.ref h0, .int r, .int i] (hx_pre (dC, dI) vwCl [(c1, .long), (c2, .int), (c3, .int), (c4, .int)] [(h0, .inr (0, [.ref a1, .ref a2, .int tk, .int ob, .int co, .ref a3, .int rc, .ref a4])), (a1, .inl (c1, 300, .inr (.inl ce))), (a2, .inl (c2, 16, .inl rg)), (a3, .inl (c3, 300, .inl re)), (a4, .inl (c4, 300, .inl np))] sz)) (fun _ _ _ _ => False) (vx_X (fun _ : Unit => True) (fun E u t => (fun (E : String) (_ : Unit) => hp_E2 E k) E u ∧ hw_B (dC, dI) vwCl [(c1, .long), (c2, .int), (c3, .int), (c4, .int)] (va_A [(h0, .inr (0, [.ref a1, .ref a2, .int tk, .int ob, .int co, .ref a3, .int rc, .ref a4])), (a1, .inl (c1, 300, .inr (.inl ce))), (a2, .inl (c2, 16, .inl rg)), (a3, .inl (c3, 300, .inl re)), (a4, .inl (c4, 300, .inl np))] sz) ((fun _ : Unit => [(h0, .inr (0, [.ref a1, .ref a2, .int tk, .int ob, .int co, .ref a3, .int rc, .ref a4])), (a1, .inl (c1, 300, .inr (.inl ce))), (a2, .inl (c2, 16, .inl rg)), (a3, .inl (c3, 300, .inl re)), (a4, .inl (c4, 300, .inl np))]) u) t) (va_A [(h0, .inr (0, [.ref a1, .ref a2, .int tk, .int ob, .int co, .ref a3, .int rc, .ref a4])), (a1, .inl (c1, 300, .inr (.inl ce))), (a2, .inl (c2, 16, .inl rg)), (a3, .inl (c3, 300, .inl re)), (a4, .inl (c4, 300, .inl np))] sz)) 1 6 (va_A [(h0, .inr (0, [.ref a1, .ref a2, .int tk, .int ob, .int co, .ref a3, .int rc, .ref a4])), (a1, .inl (c1, 300, .inr (.inl ce))), (a2, .inl (c2, 16, .inl rg)), (a3, .inl (c3, 300, .inl re)), (a4, .inl (c4, 300, .inl np))] sz) := by
  refine vx_ofW (cc := cX0_numberCell) (maxL := 4) (ret := some .int) (by decide) rfl ?_
  intro p e s m args below meth c s₁ B hml hEx hv
  obtain ⟨hargs, hsz, hP, hK, hD0, hZ⟩ := hv
  have hx := B.exec
  have hb := B.bytes
  have hr := B.returns
  have hts : ∀ w ∈ wb, w.before _ s = true := fun w h => atoms_spec (ws := wsX0_numberCell) B.pre w (List.mem_cons_of_mem _ h)
  have hown : s.vm.findClass RX0 = some m.cls := findClass_of_methodNamed B.named
  have hlocks := B.notSynchronized
  subst hsz
  have hD := hD0.self (sz := s.heap.size)
  generalize hAe : va_A [(h0, .inr (0, [.ref a1, .ref a2, .int tk, .int ob, .int co, .ref a3, .int rc, .ref a4])), (a1, .inl (c1, 300, .inr (.inl ce))), (a2, .inl (c2, 16, .inl rg)), (a3, .inl (c3, 300, .inl re)), (a4, .inl (c4, 300, .inl np))] s.heap.size = A at hD hZ ⊢
  have hA : ∀ q : Nat, s.heap.size ≤ q → A q := fun q h => by rw [← hAe]; exact Or.inr h
  have hS : va_S A s.heap s.heap [] := va_S.rf
  generalize hQ9 : vx_MQ below (fun _ _ _ _ => False) (vx_X (fun _ : Unit => True) (fun E u t => (fun (E : String) (_ : Unit) => hp_E2 E k) E u ∧ hw_B (dC, dI) vwCl [(c1, .long), (c2, .int), (c3, .int), (c4, .int)] A ((fun _ : Unit => [(h0, .inr (0, [.ref a1, .ref a2, .int tk, .int ob, .int co, .ref a3, .int rc, .ref a4])), (a1, .inl (c1, 300, .inr (.inl ce))), (a2, .inl (c2, 16, .inl rg)), (a3, .inl (c3, 300, .inl re)), (a4, .inl (c4, 300, .inl np))]) u) t) A) args s 1 6 A = Q9
  have hl := lv_entry ([.ref h0, .int r, .int i]) (n := 4) (Nat.le_of_ble_eq_true rfl)
  rw [show entryFrame m args 4 = _ from (congrArg (fun z => entryFrame m z 4) hargs).trans (lg_entry_eq m [.ref h0, .int r, .int i] 4)]
  generalize (lg_sl ([.ref h0, .int r, .int i]) ++ List.replicate (4 - (lg_sl ([.ref h0, .int r, .int i])).length) Slot.unset).toArray = ls at hl ⊢
  have hl : lv_has ls 4 [(0, .ref h0), (1, .int r), (2, .int i)] := hl
  obtain ⟨H, hH⟩ : ∃ H, H = s.heap := ⟨_, rfl⟩
  rw [← hH] at hP
  have hS : va_S A s.heap H [] := by rw [hH]; exact hS
  rw [← hH]
  generalize ([] : List Loc) = locs at hS ⊢
  refine lv_iload_n hx hb dX0_numberCell_0 rfl (lv_at hl 1 rfl) ?_
  by_cases hr1 : hp_bad r 16
  · skip
    refine hx_throws (vx_runS (As := [.int r]) (rest := []) ⟨hx, hb, hml, hown, hts⟩ (x_X0_checkRegister l hl9 dC dI _ hr1) (va_cwS 1 hts gw_X0_42 rfl rfl rfl ⟨by decide, by decide, by decide +kernel⟩ ⟨Nat.le_of_ble_eq_true rfl, Nat.le_of_ble_eq_true rfl⟩) ⟨hx_blind, hx_pay hx_P0 (hK.sub (tys' := []) [] rfl) hx_D0 hS hA hZ⟩ rfl rfl hl.1 rfl (lv_room (Nat.le_of_ble_eq_true rfl)) dX0_numberCell_1 ⟨by decide, by decide⟩) hP hS hA (fun E ce9 q9 H locs hb9 hP hS h1 h2 h3 => ?_)
    subst hQ9
    exact vx_out (fun x hx => (hEx x hx).elim) hlocks h1 h2 h3 (fun t ht ha => ⟨(), trivial, ⟨Or.inl ⟨hb9, (hk.resolve_right (fun h9 => h9.1 hr1)).2⟩, by rw [ht]; exact hP, va_K.moved ha hK, hD⟩, hS.F ht⟩) hS.2.2 (Nat.le_of_ble_eq_true rfl) (Nat.le_of_ble_eq_true rfl)
  · skip
    refine hw_callN (W.runS (As := [.int r]) (rest := []) ⟨hx, hb, hml, hown, hts⟩ (c_X0_checkRegister l hr1) (va_cwS 1 hts gw_X0_42 rfl rfl rfl ⟨by decide, by decide, by decide +kernel⟩ ⟨Nat.le_of_ble_eq_true rfl, Nat.le_of_ble_eq_true rfl⟩) preEq rfl rfl hl.1 rfl (lv_room (Nat.le_of_ble_eq_true rfl)) dX0_numberCell_1 ⟨by decide, by decide⟩) ?_
    have hcd := (hk.resolve_left (fun h9 => hr1 h9.1)).2
    obtain ⟨j, hj, rfl⟩ := hp_ok' hr1
    rw [hp_at_n hj] at hcd
    refine lv_aload_n hx hb dX0_numberCell_4 rfl (lv_at hl 0 rfl) ?_
    refine va_get (D := (dC, dI)) (ci := 0) (v := .ref a2) (C := RX0) (T := TX0) (N := 8) hx hb hts inX0 hown hK hP 0 rfl rfl 1 (by decide) (hts _ bw_fl_X0_13) (fun _ h9 => h9) rfl dX0_numberCell_5 ?_
    refine lv_iload_n hx hb dX0_numberCell_8 rfl (lv_at hl 1 rfl) ?_
    refine hw_iald (j := j) hx hb hK hP 2 1 rfl rfl (rfl) (hj) (by decide) dX0_numberCell_9 ?_
    refine hw_topi (y := hp_e M (hp_r M j)) (hC.2.2.2.1 j hj) ?_
    refine lv_istore_n hx hb dX0_numberCell_10 rfl hl (by decide) rfl (fun ls hl => ?_)
    have hl : lv_has ls 4 [(3, .int (hp_e M (hp_r M j))), (0, .ref h0), (1, .int (nI j)), (2, .int i)] := hl
    refine lv_iload_n hx hb dX0_numberCell_11 rfl (lv_at hl 0 rfl) ?_
    by_cases h00 : hp_r M j = 0
    · skip
      refine hx_throws (vx_runS (As := [.int (hp_e M (hp_r M j))]) (rest := []) ⟨hx, hb, hml, hown, hts⟩ (x_X0_checkNotNull l hl9 dC dI _ ((hp_null hW (hW.2.2.2.1 j hj)).mpr h00)) (va_cwS 1 hts gw_X0_56 rfl rfl rfl ⟨by decide, by decide, by decide +kernel⟩ ⟨Nat.le_of_ble_eq_true rfl, Nat.le_of_ble_eq_true rfl⟩) ⟨hx_blind, hx_pay hx_P0 (hK.sub (tys' := []) [] rfl) hx_D0 hS hA hZ⟩ rfl rfl hl.1 rfl (lv_room (Nat.le_of_ble_eq_true rfl)) dX0_numberCell_12 ⟨by decide, by decide⟩) hP hS hA (fun E ce9 q9 H locs hb9 hP hS h1 h2 h3 => ?_)
      subst hQ9
      exact vx_out (fun x hx => (hEx x hx).elim) hlocks h1 h2 h3 (fun t ht ha => ⟨(), trivial, ⟨Or.inr ⟨hb9, hp_cd_0 h00 hcd⟩, by rw [ht]; exact hP, va_K.moved ha hK, hD⟩, hS.F ht⟩) hS.2.2 (Nat.le_of_ble_eq_true rfl) (Nat.le_of_ble_eq_true rfl)
    · skip
      have hoL := (hW.2.2.2.1 j hj).resolve_left h00
      have hcell := hC.2.2.2.2 _ hoL
      have hlt := hp_pl_lt hW hoL
      have hz9 := (hW.2.1 _ hoL).2.2.2.2.1
      refine hw_callN (W.runS (As := [.int (hp_e M (hp_r M j))]) (rest := []) ⟨hx, hb, hml, hown, hts⟩ (c_X0_checkNotNull l (fun h9 => h00 ((hp_null hW (hW.2.2.2.1 j hj)).mp h9))) (va_cwS 1 hts gw_X0_56 rfl rfl rfl ⟨by decide, by decide, by decide +kernel⟩ ⟨Nat.le_of_ble_eq_true rfl, Nat.le_of_ble_eq_true rfl⟩) preEq rfl rfl hl.1 rfl (lv_room (Nat.le_of_ble_eq_true rfl)) dX0_numberCell_12 ⟨by decide, by decide⟩) ?_
      refine lv_aload_n hx hb dX0_numberCell_15 rfl (lv_at hl 1 rfl) ?_
      refine lv_iload_n hx hb dX0_numberCell_16 rfl (lv_at hl 0 rfl) ?_
      refine hw_topi (y := nI (hp_pl M (hp_r M j))) (hp_en h00) ?_
      refine W.callR (W.runV (As := [.int (nI (hp_pl M (hp_r M j)))]) (rest := []) ⟨hx, hb, hml, hown, hts⟩ (c_X0_kindAt l dC dI h0 a1 a2 a3 a4 c1 c2 c3 c4 ce rg tk ob co re rc np _ (by omega)) (cwV 1 hts gw_X0_59 rfl rfl rfl ⟨rfl, by decide, by decide, by decide +kernel⟩ ⟨Nat.le_of_ble_eq_true rfl, Nat.le_of_ble_eq_true rfl⟩) ⟨hw_blind, va_recv (q0 := 0) (ci := 0) (q := (RX0, TX0, 8)) hK hP rfl rfl, hw_pay hP hK hD⟩ rfl rfl hl.1 rfl (lv_room (Nat.le_of_ble_eq_true rfl)) dX0_numberCell_17 ⟨by decide, by decide⟩) ?_
      refine W.eq (g2 := F0 m 20 ls [.int ((ce (hp_pl M (hp_r M j))).toInt32 &&& 3)]) rfl ?_
      refine hw_topi (y := nI (hp_k M (hp_r M j))) (hp_rkind hW hoL hcell.1) ?_
      refine lv_iconst (v := 2) hx hb dX0_numberCell_20 (by decide) ?_
      refine lv_icmp_ne hx hb dX0_numberCell_21 (tgt := 28) (by decide) (fun hc => ?_) (fun hc => ?_)
      · have hkk : ¬ hp_k M (hp_r M j) = 2 := fun h9 => hc (by rw [h9]; decide)
        refine lv_iconst (v := 0) hx hb dX0_numberCell_28 (by decide) ?_
        refine hx_throws (vx_runS (As := [.int 0]) (rest := []) ⟨hx, hb, hml, hown, hts⟩ (x_X0_checkKind l hl9 dC dI _ ) (va_cwS 1 hts gw_X0_63 rfl rfl rfl ⟨by decide, by decide, by decide +kernel⟩ ⟨Nat.le_of_ble_eq_true rfl, Nat.le_of_ble_eq_true rfl⟩) ⟨hx_blind, hx_pay hx_P0 (hK.sub (tys' := []) [] rfl) hx_D0 hS hA hZ⟩ rfl rfl hl.1 rfl (lv_room (Nat.le_of_ble_eq_true rfl)) dX0_numberCell_29 ⟨by decide, by decide⟩) hP hS hA (fun E ce9 q9 H locs hb9 hP hS h1 h2 h3 => ?_)
        subst hQ9
        exact vx_out (fun x hx => (hEx x hx).elim) hlocks h1 h2 h3 (fun t ht ha => ⟨(), trivial, ⟨Or.inl ⟨hb9, hp_cd_1 h00 (Or.inl hkk) hcd⟩, by rw [ht]; exact hP, va_K.moved ha hK, hD⟩, hS.F ht⟩) hS.2.2 (Nat.le_of_ble_eq_true rfl) (Nat.le_of_ble_eq_true rfl)
      · have hkk : hp_k M (hp_r M j) = 2 := (hp_k1 hW hoL (n := 2) (by decide)).mp hc
        refine lv_iconst (v := 1) hx hb dX0_numberCell_24 (by decide) ?_
        refine lv_goto hx hb dX0_numberCell_25 (tgt := 29) (by decide) ?_
        refine hw_callN (W.runS (As := [.int 1]) (rest := []) ⟨hx, hb, hml, hown, hts⟩ (c_X0_checkKind l ) (va_cwS 1 hts gw_X0_63 rfl rfl rfl ⟨by decide, by decide, by decide +kernel⟩ ⟨Nat.le_of_ble_eq_true rfl, Nat.le_of_ble_eq_true rfl⟩) preEq rfl rfl hl.1 rfl (lv_room (Nat.le_of_ble_eq_true rfl)) dX0_numberCell_29 ⟨by decide, by decide⟩) ?_
        refine lv_iload_n hx hb dX0_numberCell_32 rfl (lv_at hl 3 rfl) ?_
        refine lv_aload_n hx hb dX0_numberCell_33 rfl (lv_at hl 1 rfl) ?_
        refine lv_iload_n hx hb dX0_numberCell_34 rfl (lv_at hl 0 rfl) ?_
        refine hw_topi (y := nI (hp_pl M (hp_r M j))) (hp_en h00) ?_
        refine W.callR (W.runV (As := [.int (nI (hp_pl M (hp_r M j)))]) (rest := [.int i]) ⟨hx, hb, hml, hown, hts⟩ (c_X0_lengthAt l dC dI h0 a1 a2 a3 a4 c1 c2 c3 c4 ce rg tk ob co re rc np _ (by omega)) (cwV 1 hts gw_X0_67 rfl rfl rfl ⟨rfl, by decide, by decide, by decide +kernel⟩ ⟨Nat.le_of_ble_eq_true rfl, Nat.le_of_ble_eq_true rfl⟩) ⟨hw_blind, va_recv (q0 := 0) (ci := 0) (q := (RX0, TX0, 8)) hK hP rfl rfl, hw_pay hP hK hD⟩ rfl rfl hl.1 rfl (lv_room (Nat.le_of_ble_eq_true rfl)) dX0_numberCell_35 ⟨by decide, by decide⟩) ?_
        refine W.eq (g2 := F0 m 38 ls [.int ((ce (hp_pl M (hp_r M j))).toInt32 >>> ((2 : Int32) &&& 31)), .int i]) rfl ?_
        refine hw_topi (y := nI (hp_z M (hp_r M j))) (hp_rlen hW hoL hcell.1) ?_
        by_cases hq1 : hp_bad i (hp_z M (hp_r M j))
        · skip
          refine hx_throws (vx_runS (As := [.int i, .int (nI (hp_z M (hp_r M j)))]) (rest := []) ⟨hx, hb, hml, hown, hts⟩ (x_X0_checkBelow l hl9 dC dI _ hq1) (va_cwS 2 hts gw_X0_46 rfl rfl rfl ⟨by decide, by decide, by decide +kernel⟩ ⟨Nat.le_of_ble_eq_true rfl, Nat.le_of_ble_eq_true rfl⟩) ⟨hx_blind, hx_pay hx_P0 (hK.sub (tys' := []) [] rfl) hx_D0 hS hA hZ⟩ rfl rfl hl.1 rfl (lv_room (Nat.le_of_ble_eq_true rfl)) dX0_numberCell_38 ⟨by decide, by decide⟩) hP hS hA (fun E ce9 q9 H locs hb9 hP hS h1 h2 h3 => ?_)
          subst hQ9
          exact vx_out (fun x hx => (hEx x hx).elim) hlocks h1 h2 h3 (fun t ht ha => ⟨(), trivial, ⟨Or.inl ⟨hb9, hp_cd_1 h00 (Or.inr hq1) hcd⟩, by rw [ht]; exact hP, va_K.moved ha hK, hD⟩, hS.F ht⟩) hS.2.2 (Nat.le_of_ble_eq_true rfl) (Nat.le_of_ble_eq_true rfl)
        · skip
          refine hw_callN (W.runS (As := [.int i, .int (nI (hp_z M (hp_r M j)))]) (rest := []) ⟨hx, hb, hml, hown, hts⟩ (c_X0_checkBelow l hq1) (va_cwS 2 hts gw_X0_46 rfl rfl rfl ⟨by decide, by decide, by decide +kernel⟩ ⟨Nat.le_of_ble_eq_true rfl, Nat.le_of_ble_eq_true rfl⟩) preEq rfl rfl hl.1 rfl (lv_room (Nat.le_of_ble_eq_true rfl)) dX0_numberCell_38 ⟨by decide, by decide⟩) ?_
          exact absurd (hp_cd_ok h00 hkk hq1 hcd) hk0

set_option maxHeartbeats 4000000 in
set_option maxRecDepth 100000 in
theorem c_X0_numberCell (l : Launch) (dC : Nat → ClassId) (dI : Nat → Nat → Nat) (h0 a1 a2 a3 a4 : Nat) (c1 c2 c3 c4 : ClassId) (ce : Nat → Int64) (rg : Nat → Int32) (tk ob co : Int32) (re : Nat → Int32) (rc : Int32) (np : Nat → Int32) (sz : Nat) (M : hp_S) (hW : hp_W M) (hC : hp_C M ce rg tk ob co) (j q : Nat) (hj : j < 16) (h0n : hp_r M j ≠ 0) (hk1 : hp_k M (hp_r M j) = 2) (hq : q < hp_z M (hp_r M j)) : Met l yX0_numberCell wsX0_numberCell ({ frames := 2, cells := 0, slots := 0, locals := 41 }) (va_Pc [.ref h0, .int (nI j), .int (nI q)] (hw_pre (dC, dI) vwCl [(c1, .long), (c2, .int), (c3, .int), (c4, .int)] [(h0, .inr (0, [.ref a1, .ref a2, .int tk, .int ob, .int co, .ref a3, .int rc, .ref a4])), (a1, .inl (c1, 300, .inr (.inl ce))), (a2, .inl (c2, 16, .inl rg)), (a3, .inl (c3, 300, .inl re)), (a4, .inl (c4, 300, .inl np))] sz)) (QcRead (nI (hp_pl M (hp_r M j) + (1 + q)))) 0 0 (fun _ => False) := by
  refine Met.ofW (cc := cX0_numberCell) (maxL := 4) (ret := some .int) (by decide) rfl ?_
  intro p e s m args below meth c s₁ B hml hv
  obtain ⟨rfl, hsz, hP, hK, hD0⟩ := hv
  have hx := B.exec
  have hb := B.bytes
  have hr := B.returns
  have hts : ∀ w ∈ wb, w.before _ s = true := fun w h => atoms_spec (ws := wsX0_numberCell) B.pre w (List.mem_cons_of_mem _ h)
  have hown : s.vm.findClass RX0 = some m.cls := findClass_of_methodNamed B.named
  have hlocks := B.notSynchronized
  subst hsz
  have hD := hD0
  have hl := lv_entry ([.ref h0, .int (nI j), .int (nI q)]) (n := 4) (Nat.le_of_ble_eq_true rfl)
  rw [lg_entry_eq]
  generalize (lg_sl ([.ref h0, .int (nI j), .int (nI q)]) ++ List.replicate (4 - (lg_sl ([.ref h0, .int (nI j), .int (nI q)])).length) Slot.unset).toArray = ls at hl ⊢
  have hl : lv_has ls 4 [(0, .ref h0), (1, .int (nI j)), (2, .int (nI q))] := hl
  refine lv_iload_n hx hb dX0_numberCell_0 rfl (lv_at hl 1 rfl) ?_
  have hoL := (hW.2.2.2.1 j hj).resolve_left h0n
  have hcell := hC.2.2.2.2 _ hoL
  have hlt := hp_pl_lt hW hoL
  have hz9 := (hW.2.1 _ hoL).2.2.2.2.1
  refine hw_callN (W.runS (As := [.int (nI j)]) (rest := []) ⟨hx, hb, hml, hown, hts⟩ (c_X0_checkRegister l (hp_ok2 hj (by decide))) (va_cwS 1 hts gw_X0_42 rfl rfl rfl ⟨by decide, by decide, by decide +kernel⟩ ⟨Nat.le_of_ble_eq_true rfl, Nat.le_of_ble_eq_true rfl⟩) preEq rfl rfl hl.1 rfl (lv_room (Nat.le_of_ble_eq_true rfl)) dX0_numberCell_1 ⟨by decide, by decide⟩) ?_
  refine lv_aload_n hx hb dX0_numberCell_4 rfl (lv_at hl 0 rfl) ?_
  refine va_get (D := (dC, dI)) (ci := 0) (v := .ref a2) (C := RX0) (T := TX0) (N := 8) hx hb hts inX0 hown hK hP 0 rfl rfl 1 (by decide) (hts _ bw_fl_X0_13) (fun _ h9 => h9) rfl dX0_numberCell_5 ?_
  refine lv_iload_n hx hb dX0_numberCell_8 rfl (lv_at hl 1 rfl) ?_
  refine hw_iald (j := j) hx hb hK hP 2 1 rfl rfl (rfl) (hj) (by decide) dX0_numberCell_9 ?_
  refine hw_topi (y := nI (hp_pl M (hp_r M j))) ((hC.2.2.2.1 j hj).trans (hp_en h0n)) ?_
  refine lv_istore_n hx hb dX0_numberCell_10 rfl hl (by decide) rfl (fun ls hl => ?_)
  have hl : lv_has ls 4 [(3, .int (nI (hp_pl M (hp_r M j)))), (0, .ref h0), (1, .int (nI j)), (2, .int (nI q))] := hl
  refine lv_iload_n hx hb dX0_numberCell_11 rfl (lv_at hl 0 rfl) ?_
  refine hw_callN (W.runS (As := [.int (nI (hp_pl M (hp_r M j)))]) (rest := []) ⟨hx, hb, hml, hown, hts⟩ (c_X0_checkNotNull l (hp_neg1 (by omega))) (va_cwS 1 hts gw_X0_56 rfl rfl rfl ⟨by decide, by decide, by decide +kernel⟩ ⟨Nat.le_of_ble_eq_true rfl, Nat.le_of_ble_eq_true rfl⟩) preEq rfl rfl hl.1 rfl (lv_room (Nat.le_of_ble_eq_true rfl)) dX0_numberCell_12 ⟨by decide, by decide⟩) ?_
  refine lv_aload_n hx hb dX0_numberCell_15 rfl (lv_at hl 1 rfl) ?_
  refine lv_iload_n hx hb dX0_numberCell_16 rfl (lv_at hl 0 rfl) ?_
  refine W.callR (W.runV (As := [.int (nI (hp_pl M (hp_r M j)))]) (rest := []) ⟨hx, hb, hml, hown, hts⟩ (c_X0_kindAt l dC dI h0 a1 a2 a3 a4 c1 c2 c3 c4 ce rg tk ob co re rc np _ (by omega)) (cwV 1 hts gw_X0_59 rfl rfl rfl ⟨rfl, by decide, by decide, by decide +kernel⟩ ⟨Nat.le_of_ble_eq_true rfl, Nat.le_of_ble_eq_true rfl⟩) ⟨hw_blind, va_recv (q0 := 0) (ci := 0) (q := (RX0, TX0, 8)) hK hP rfl rfl, hw_pay hP hK hD⟩ rfl rfl hl.1 rfl (lv_room (Nat.le_of_ble_eq_true rfl)) dX0_numberCell_17 ⟨by decide, by decide⟩) ?_
  refine W.eq (g2 := F0 m 20 ls [.int ((ce (hp_pl M (hp_r M j))).toInt32 &&& 3)]) rfl ?_
  refine hw_topi (y := nI (hp_k M (hp_r M j))) (hp_rkind hW hoL hcell.1) ?_
  refine lv_iconst (v := 2) hx hb dX0_numberCell_20 (by decide) ?_
  refine lv_icmp_ne hx hb dX0_numberCell_21 (tgt := 28) (by decide) (fun hc => ?_) (fun hc => ?_)
  · exact absurd (by rw [hk1]; decide) hc
  · skip
    refine lv_iconst (v := 1) hx hb dX0_numberCell_24 (by decide) ?_
    refine lv_goto hx hb dX0_numberCell_25 (tgt := 29) (by decide) ?_
    refine hw_callN (W.runS (As := [.int 1]) (rest := []) ⟨hx, hb, hml, hown, hts⟩ (c_X0_checkKind l ) (va_cwS 1 hts gw_X0_63 rfl rfl rfl ⟨by decide, by decide, by decide +kernel⟩ ⟨Nat.le_of_ble_eq_true rfl, Nat.le_of_ble_eq_true rfl⟩) preEq rfl rfl hl.1 rfl (lv_room (Nat.le_of_ble_eq_true rfl)) dX0_numberCell_29 ⟨by decide, by decide⟩) ?_
    refine lv_iload_n hx hb dX0_numberCell_32 rfl (lv_at hl 3 rfl) ?_
    refine lv_aload_n hx hb dX0_numberCell_33 rfl (lv_at hl 1 rfl) ?_
    refine lv_iload_n hx hb dX0_numberCell_34 rfl (lv_at hl 0 rfl) ?_
    refine W.callR (W.runV (As := [.int (nI (hp_pl M (hp_r M j)))]) (rest := [.int (nI q)]) ⟨hx, hb, hml, hown, hts⟩ (c_X0_lengthAt l dC dI h0 a1 a2 a3 a4 c1 c2 c3 c4 ce rg tk ob co re rc np _ (by omega)) (cwV 1 hts gw_X0_67 rfl rfl rfl ⟨rfl, by decide, by decide, by decide +kernel⟩ ⟨Nat.le_of_ble_eq_true rfl, Nat.le_of_ble_eq_true rfl⟩) ⟨hw_blind, va_recv (q0 := 0) (ci := 0) (q := (RX0, TX0, 8)) hK hP rfl rfl, hw_pay hP hK hD⟩ rfl rfl hl.1 rfl (lv_room (Nat.le_of_ble_eq_true rfl)) dX0_numberCell_35 ⟨by decide, by decide⟩) ?_
    refine W.eq (g2 := F0 m 38 ls [.int ((ce (hp_pl M (hp_r M j))).toInt32 >>> ((2 : Int32) &&& 31)), .int (nI q)]) rfl ?_
    refine hw_topi (y := nI (hp_z M (hp_r M j))) (hp_rlen hW hoL hcell.1) ?_
    refine hw_callN (W.runS (As := [.int (nI q), .int (nI (hp_z M (hp_r M j)))]) (rest := []) ⟨hx, hb, hml, hown, hts⟩ (c_X0_checkBelow l (hp_ok2 hq (by omega))) (va_cwS 2 hts gw_X0_46 rfl rfl rfl ⟨by decide, by decide, by decide +kernel⟩ ⟨Nat.le_of_ble_eq_true rfl, Nat.le_of_ble_eq_true rfl⟩) preEq rfl rfl hl.1 rfl (lv_room (Nat.le_of_ble_eq_true rfl)) dX0_numberCell_38 ⟨by decide, by decide⟩) ?_
    refine lv_iload_n hx hb dX0_numberCell_41 rfl (lv_at hl 0 rfl) ?_
    refine lv_iconst (v := 1) hx hb dX0_numberCell_42 (by decide) ?_
    refine lv_iadd hx hb dX0_numberCell_43 ?_
    refine lv_iload_n hx hb dX0_numberCell_44 rfl (lv_at hl 3 rfl) ?_
    refine lv_iadd hx hb dX0_numberCell_45 ?_
    refine hw_topi (y := nI (hp_pl M (hp_r M j) + (1 + q))) (by rw [nI_1, nI_add]; congr 1; omega) ?_
    exact W.iret (v := (nI (hp_pl M (hp_r M j) + (1 + q)))) hx hb hr (fun t ht hW => ⟨rfl, ht⟩) (fun q h => nomatch h) dX0_numberCell_46

set_option maxHeartbeats 4000000 in
set_option maxRecDepth 100000 in
theorem c_X0_put (l : Launch) (dC : Nat → ClassId) (dI : Nat → Nat → Nat) (h0 a1 a2 a3 a4 : Nat) (c1 c2 c3 c4 : ClassId) (ce : Nat → Int64) (rg : Nat → Int32) (tk ob co : Int32) (re : Nat → Int32) (rc : Int32) (np : Nat → Int32) (sz : Nat) (M : hp_S) (hW : hp_W M) (hC : hp_C M ce rg tk ob co) (j q : Nat) (hj : j < 16) (h0n : hp_r M j ≠ 0) (hk1 : hp_k M (hp_r M j) = 2) (hq : q < hp_z M (hp_r M j)) (v : Int64) : Met l yX0_put wsX0_put ({ frames := 3, cells := 0, slots := 0, locals := 64 }) (va_Pc [.ref h0, .int (nI j), .int (nI q), .long v] (hw_pre (dC, dI) vwCl [(c1, .long), (c2, .int), (c3, .int), (c4, .int)] [(h0, .inr (0, [.ref a1, .ref a2, .int tk, .int ob, .int co, .ref a3, .int rc, .ref a4])), (a1, .inl (c1, 300, .inr (.inl ce))), (a2, .inl (c2, 16, .inl rg)), (a3, .inl (c3, 300, .inl re)), (a4, .inl (c4, 300, .inl np))] sz)) (va_Qv (fun u : Nat → Int64 => hp_C (hp_sn M (hp_r M j) q v) u rg tk ob co) (fun u t => hw_B (dC, dI) vwCl [(c1, .long), (c2, .int), (c3, .int), (c4, .int)] (va_A [(h0, .inr (0, [.ref a1, .ref a2, .int tk, .int ob, .int co, .ref a3, .int rc, .ref a4])), (a1, .inl (c1, 300, .inr (.inl ce))), (a2, .inl (c2, 16, .inl rg)), (a3, .inl (c3, 300, .inl re)), (a4, .inl (c4, 300, .inl np))] sz) ((fun u : Nat → Int64 => [(h0, .inr (0, [.ref a1, .ref a2, .int tk, .int ob, .int co, .ref a3, .int rc, .ref a4])), (a1, .inl (c1, 300, .inr (.inl u))), (a2, .inl (c2, 16, .inl rg)), (a3, .inl (c3, 300, .inl re)), (a4, .inl (c4, 300, .inl np))]) u) t) (va_A [(h0, .inr (0, [.ref a1, .ref a2, .int tk, .int ob, .int co, .ref a3, .int rc, .ref a4])), (a1, .inl (c1, 300, .inr (.inl ce))), (a2, .inl (c2, 16, .inl rg)), (a3, .inl (c3, 300, .inl re)), (a4, .inl (c4, 300, .inl np))] sz)) 0 0 (va_A [(h0, .inr (0, [.ref a1, .ref a2, .int tk, .int ob, .int co, .ref a3, .int rc, .ref a4])), (a1, .inl (c1, 300, .inr (.inl ce))), (a2, .inl (c2, 16, .inl rg)), (a3, .inl (c3, 300, .inl re)), (a4, .inl (c4, 300, .inl np))] sz) := by
  refine Met.ofW (cc := cX0_put) (maxL := 5) (ret := none) (by decide) rfl ?_
  intro p e s m args below meth c s₁ B hml hv
  obtain ⟨hargs, hsz, hP, hK, hD0⟩ := hv
  have hx := B.exec
  have hb := B.bytes
  have hr := B.returns
  have hts : ∀ w ∈ wb, w.before _ s = true := fun w h => atoms_spec (ws := wsX0_put) B.pre w (List.mem_cons_of_mem _ h)
  have hown : s.vm.findClass RX0 = some m.cls := findClass_of_methodNamed B.named
  have hlocks := B.notSynchronized
  subst hsz
  have hD := hD0.self (sz := s.heap.size)
  generalize hAe : va_A [(h0, .inr (0, [.ref a1, .ref a2, .int tk, .int ob, .int co, .ref a3, .int rc, .ref a4])), (a1, .inl (c1, 300, .inr (.inl ce))), (a2, .inl (c2, 16, .inl rg)), (a3, .inl (c3, 300, .inl re)), (a4, .inl (c4, 300, .inl np))] s.heap.size = A at hD ⊢
  have hA : ∀ q : Nat, s.heap.size ≤ q → A q := fun q h => by rw [← hAe]; exact Or.inr h
  have hS : va_S A s.heap s.heap [] := va_S.rf
  generalize hQ9 : MQ below (va_Qv (fun u : Nat → Int64 => hp_C (hp_sn M (hp_r M j) q v) u rg tk ob co) (fun u t => hw_B (dC, dI) vwCl [(c1, .long), (c2, .int), (c3, .int), (c4, .int)] A ((fun u : Nat → Int64 => [(h0, .inr (0, [.ref a1, .ref a2, .int tk, .int ob, .int co, .ref a3, .int rc, .ref a4])), (a1, .inl (c1, 300, .inr (.inl u))), (a2, .inl (c2, 16, .inl rg)), (a3, .inl (c3, 300, .inl re)), (a4, .inl (c4, 300, .inl np))]) u) t) A) args s 0 0 A = Q9
  have hl := lv_entry ([.ref h0, .int (nI j), .int (nI q), .long v]) (n := 5) (Nat.le_of_ble_eq_true rfl)
  rw [show entryFrame m args 5 = _ from (congrArg (fun z => entryFrame m z 5) hargs).trans (lg_entry_eq m [.ref h0, .int (nI j), .int (nI q), .long v] 5)]
  generalize (lg_sl ([.ref h0, .int (nI j), .int (nI q), .long v]) ++ List.replicate (5 - (lg_sl ([.ref h0, .int (nI j), .int (nI q), .long v])).length) Slot.unset).toArray = ls at hl ⊢
  have hl : lv_has ls 5 [(0, .ref h0), (1, .int (nI j)), (2, .int (nI q)), (3, .long v)] := hl
  obtain ⟨H, hH⟩ : ∃ H, H = s.heap := ⟨_, rfl⟩
  rw [← hH] at hP
  have hS : va_S A s.heap H [] := by rw [hH]; exact hS
  rw [← hH]
  generalize ([] : List Loc) = locs at hS ⊢
  have hoL := (hW.2.2.2.1 j hj).resolve_left h0n
  have hlt := hp_pl_lt hW hoL
  refine lv_aload_n hx hb dX0_put_0 rfl (lv_at hl 0 rfl) ?_
  refine va_get (D := (dC, dI)) (ci := 0) (v := .ref a1) (C := RX0) (T := TX0) (N := 8) hx hb hts inX0 hown hK hP 0 rfl rfl 0 (by decide) (hts _ bw_fl_X0_9) (fun _ h9 => h9) rfl dX0_put_1 ?_
  refine lv_aload_n hx hb dX0_put_4 rfl (lv_at hl 0 rfl) ?_
  refine lv_iload_n hx hb dX0_put_5 rfl (lv_at hl 1 rfl) ?_
  refine lv_iload_n hx hb dX0_put_6 rfl (lv_at hl 2 rfl) ?_
  refine W.callR (W.runV (As := [.int (nI j), .int (nI q)]) (rest := [.ref a1]) ⟨hx, hb, hml, hown, hts⟩ (c_X0_numberCell l dC dI h0 a1 a2 a3 a4 c1 c2 c3 c4 ce rg tk ob co re rc np _ M hW hC j q hj h0n hk1 hq) (cwV 2 hts gw_X0_70 rfl rfl rfl ⟨rfl, by decide, by decide, by decide +kernel⟩ ⟨Nat.le_of_ble_eq_true rfl, Nat.le_of_ble_eq_true rfl⟩) ⟨hw_blind, va_recv (q0 := 0) (ci := 0) (q := (RX0, TX0, 8)) hK hP rfl rfl, hw_pay hP hK hD⟩ rfl rfl hl.1 rfl (lv_room (Nat.le_of_ble_eq_true rfl)) dX0_put_7 ⟨by decide, by decide⟩) ?_
  refine W.eq (g2 := F0 m 10 ls [.int (nI (hp_pl M (hp_r M j) + (1 + q))), .ref a1]) rfl ?_
  refine lv_lload_n hx hb dX0_put_10 rfl (lv_at hl 3 rfl) ?_
  refine hw_last (j := hp_pl M (hp_r M j) + (1 + q)) hx hb hK hP hD hS 1 0 rfl rfl (rfl) (by omega) (by decide) dX0_put_11 (fun H locs hP hD hS => ?_)
  have hP : va_P (dC, dI) vwCl [(h0, .inr (0, [.ref a1, .ref a2, .int tk, .int ob, .int co, .ref a3, .int rc, .ref a4])), (a1, .inl (c1, 300, .inr (.inl (vp_updL ce (hp_pl M (hp_r M j) + (1 + q)) v)))), (a2, .inl (c2, 16, .inl rg)), (a3, .inl (c3, 300, .inl re)), (a4, .inl (c4, 300, .inl np))] H := hP
  have hD : va_D A [(h0, .inr (0, [.ref a1, .ref a2, .int tk, .int ob, .int co, .ref a3, .int rc, .ref a4])), (a1, .inl (c1, 300, .inr (.inl (vp_updL ce (hp_pl M (hp_r M j) + (1 + q)) v)))), (a2, .inl (c2, 16, .inl rg)), (a3, .inl (c3, 300, .inl re)), (a4, .inl (c4, 300, .inl np))] := hD
  subst hQ9
  exact W.vret hx hb hr (fun t ht hWm => ⟨⟨(vp_updL ce (hp_pl M (hp_r M j) + (1 + q)) v), rfl, hp_sn_C hC hoL hk1 hq, by rw [ht]; exact hP, va_K.moved hWm.alike hK, hD⟩, hS.F ht⟩) hS.2.2 dX0_put_12

set_option maxHeartbeats 4000000 in
set_option maxRecDepth 100000 in
theorem c_X0_get (l : Launch) (dC : Nat → ClassId) (dI : Nat → Nat → Nat) (h0 a1 a2 a3 a4 : Nat) (c1 c2 c3 c4 : ClassId) (ce : Nat → Int64) (rg : Nat → Int32) (tk ob co : Int32) (re : Nat → Int32) (rc : Int32) (np : Nat → Int32) (sz : Nat) (M : hp_S) (hW : hp_W M) (hC : hp_C M ce rg tk ob co) (j q : Nat) (hj : j < 16) (h0n : hp_r M j ≠ 0) (hk1 : hp_k M (hp_r M j) = 2) (hq : q < hp_z M (hp_r M j)) : Met l yX0_get wsX0_get ({ frames := 3, cells := 0, slots := 0, locals := 64 }) (va_Pc [.ref h0, .int (nI j), .int (nI q)] (hw_pre (dC, dI) vwCl [(c1, .long), (c2, .int), (c3, .int), (c4, .int)] [(h0, .inr (0, [.ref a1, .ref a2, .int tk, .int ob, .int co, .ref a3, .int rc, .ref a4])), (a1, .inl (c1, 300, .inr (.inl ce))), (a2, .inl (c2, 16, .inl rg)), (a3, .inl (c3, 300, .inl re)), (a4, .inl (c4, 300, .inl np))] sz)) (k2_QcV (.long (hp_n M (hp_r M j) q))) 0 0 (fun _ => False) := by
  refine Met.ofW (cc := cX0_get) (maxL := 3) (ret := some .long) (by decide) rfl ?_
  intro p e s m args below meth c s₁ B hml hv
  obtain ⟨rfl, hsz, hP, hK, hD0⟩ := hv
  have hx := B.exec
  have hb := B.bytes
  have hr := B.returns
  have hts : ∀ w ∈ wb, w.before _ s = true := fun w h => atoms_spec (ws := wsX0_get) B.pre w (List.mem_cons_of_mem _ h)
  have hown : s.vm.findClass RX0 = some m.cls := findClass_of_methodNamed B.named
  have hlocks := B.notSynchronized
  subst hsz
  have hD := hD0
  have hl := lv_entry ([.ref h0, .int (nI j), .int (nI q)]) (n := 3) (Nat.le_of_ble_eq_true rfl)
  rw [lg_entry_eq]
  generalize (lg_sl ([.ref h0, .int (nI j), .int (nI q)]) ++ List.replicate (3 - (lg_sl ([.ref h0, .int (nI j), .int (nI q)])).length) Slot.unset).toArray = ls at hl ⊢
  have hl : lv_has ls 3 [(0, .ref h0), (1, .int (nI j)), (2, .int (nI q))] := hl
  have hoL := (hW.2.2.2.1 j hj).resolve_left h0n
  have hlt := hp_pl_lt hW hoL
  refine lv_aload_n hx hb dX0_get_0 rfl (lv_at hl 0 rfl) ?_
  refine va_get (D := (dC, dI)) (ci := 0) (v := .ref a1) (C := RX0) (T := TX0) (N := 8) hx hb hts inX0 hown hK hP 0 rfl rfl 0 (by decide) (hts _ bw_fl_X0_9) (fun _ h9 => h9) rfl dX0_get_1 ?_
  refine lv_aload_n hx hb dX0_get_4 rfl (lv_at hl 0 rfl) ?_
  refine lv_iload_n hx hb dX0_get_5 rfl (lv_at hl 1 rfl) ?_
  refine lv_iload_n hx hb dX0_get_6 rfl (lv_at hl 2 rfl) ?_
  refine W.callR (W.runV (As := [.int (nI j), .int (nI q)]) (rest := [.ref a1]) ⟨hx, hb, hml, hown, hts⟩ (c_X0_numberCell l dC dI h0 a1 a2 a3 a4 c1 c2 c3 c4 ce rg tk ob co re rc np _ M hW hC j q hj h0n hk1 hq) (cwV 2 hts gw_X0_70 rfl rfl rfl ⟨rfl, by decide, by decide, by decide +kernel⟩ ⟨Nat.le_of_ble_eq_true rfl, Nat.le_of_ble_eq_true rfl⟩) ⟨hw_blind, va_recv (q0 := 0) (ci := 0) (q := (RX0, TX0, 8)) hK hP rfl rfl, hw_pay hP hK hD⟩ rfl rfl hl.1 rfl (lv_room (Nat.le_of_ble_eq_true rfl)) dX0_get_7 ⟨by decide, by decide⟩) ?_
  refine W.eq (g2 := F0 m 10 ls [.int (nI (hp_pl M (hp_r M j) + (1 + q))), .ref a1]) rfl ?_
  refine hw_lald (j := hp_pl M (hp_r M j) + (1 + q)) hx hb hK hP 1 0 rfl rfl (rfl) (by omega) (by decide) dX0_get_10 ?_
  exact W.lret (v := (ce (hp_pl M (hp_r M j) + (1 + q)))) hx hb hr (fun t ht hW => ⟨by rw [(hC.2.2.2.2 _ hoL).2 q hq]; unfold hp_v; rw [if_pos hk1], ht⟩) (fun q h => nomatch h) dX0_get_11

set_option maxHeartbeats 4000000 in
set_option maxRecDepth 100000 in
theorem x_X0_put (l : Launch) (dC : Nat → ClassId) (dI : Nat → Nat → Nat) (h0 a1 a2 a3 a4 : Nat) (c1 c2 c3 c4 : ClassId) (ce : Nat → Int64) (rg : Nat → Int32) (tk ob co : Int32) (re : Nat → Int32) (rc : Int32) (np : Nat → Int32) (sz : Nat) (hl9 : l.stackTraces = false) (M : hp_S) (hW : hp_W M) (hC : hp_C M ce rg tk ob co) (r i : Int32) (k : Nat) (hk : hp_lk M (hp_bad r 16) (hp_at M r) i (hp_k M (hp_at M r) = 2) k) (hk0 : k ≠ 0) (v : Int64) : vx_Met l yX0_put wsX0_put ({ frames := 9, cells := 1, slots := 6, locals := 154 }) (va_Pc [.ref h0, .int r, .int i, .long v] (hx_pre (dC, dI) vwCl [(c1, .long), (c2, .int), (c3, .int), (c4, .int)] [(h0, .inr (0, [.ref a1, .ref a2, .int tk, .int ob, .int co, .ref a3, .int rc, .ref a4])), (a1, .inl (c1, 300, .inr (.inl ce))), (a2, .inl (c2, 16, .inl rg)), (a3, .inl (c3, 300, .inl re)), (a4, .inl (c4, 300, .inl np))] sz)) (fun _ _ _ _ => False) (vx_X (fun _ : Unit => True) (fun E u t => (fun (E : String) (_ : Unit) => hp_E2 E k) E u ∧ hw_B (dC, dI) vwCl [(c1, .long), (c2, .int), (c3, .int), (c4, .int)] (va_A [(h0, .inr (0, [.ref a1, .ref a2, .int tk, .int ob, .int co, .ref a3, .int rc, .ref a4])), (a1, .inl (c1, 300, .inr (.inl ce))), (a2, .inl (c2, 16, .inl rg)), (a3, .inl (c3, 300, .inl re)), (a4, .inl (c4, 300, .inl np))] sz) ((fun _ : Unit => [(h0, .inr (0, [.ref a1, .ref a2, .int tk, .int ob, .int co, .ref a3, .int rc, .ref a4])), (a1, .inl (c1, 300, .inr (.inl ce))), (a2, .inl (c2, 16, .inl rg)), (a3, .inl (c3, 300, .inl re)), (a4, .inl (c4, 300, .inl np))]) u) t) (va_A [(h0, .inr (0, [.ref a1, .ref a2, .int tk, .int ob, .int co, .ref a3, .int rc, .ref a4])), (a1, .inl (c1, 300, .inr (.inl ce))), (a2, .inl (c2, 16, .inl rg)), (a3, .inl (c3, 300, .inl re)), (a4, .inl (c4, 300, .inl np))] sz)) 1 6 (va_A [(h0, .inr (0, [.ref a1, .ref a2, .int tk, .int ob, .int co, .ref a3, .int rc, .ref a4])), (a1, .inl (c1, 300, .inr (.inl ce))), (a2, .inl (c2, 16, .inl rg)), (a3, .inl (c3, 300, .inl re)), (a4, .inl (c4, 300, .inl np))] sz) := by
  refine vx_ofW (cc := cX0_put) (maxL := 5) (ret := none) (by decide) rfl ?_
  intro p e s m args below meth c s₁ B hml hEx hv
  obtain ⟨hargs, hsz, hP, hK, hD0, hZ⟩ := hv
  have hx := B.exec
  have hb := B.bytes
  have hr := B.returns
  have hts : ∀ w ∈ wb, w.before _ s = true := fun w h => atoms_spec (ws := wsX0_put) B.pre w (List.mem_cons_of_mem _ h)
  have hown : s.vm.findClass RX0 = some m.cls := findClass_of_methodNamed B.named
  have hlocks := B.notSynchronized
  subst hsz
  have hD := hD0.self (sz := s.heap.size)
  generalize hAe : va_A [(h0, .inr (0, [.ref a1, .ref a2, .int tk, .int ob, .int co, .ref a3, .int rc, .ref a4])), (a1, .inl (c1, 300, .inr (.inl ce))), (a2, .inl (c2, 16, .inl rg)), (a3, .inl (c3, 300, .inl re)), (a4, .inl (c4, 300, .inl np))] s.heap.size = A at hD hZ ⊢
  have hA : ∀ q : Nat, s.heap.size ≤ q → A q := fun q h => by rw [← hAe]; exact Or.inr h
  have hS : va_S A s.heap s.heap [] := va_S.rf
  generalize hQ9 : vx_MQ below (fun _ _ _ _ => False) (vx_X (fun _ : Unit => True) (fun E u t => (fun (E : String) (_ : Unit) => hp_E2 E k) E u ∧ hw_B (dC, dI) vwCl [(c1, .long), (c2, .int), (c3, .int), (c4, .int)] A ((fun _ : Unit => [(h0, .inr (0, [.ref a1, .ref a2, .int tk, .int ob, .int co, .ref a3, .int rc, .ref a4])), (a1, .inl (c1, 300, .inr (.inl ce))), (a2, .inl (c2, 16, .inl rg)), (a3, .inl (c3, 300, .inl re)), (a4, .inl (c4, 300, .inl np))]) u) t) A) args s 1 6 A = Q9
  have hl := lv_entry ([.ref h0, .int r, .int i, .long v]) (n := 5) (Nat.le_of_ble_eq_true rfl)
  rw [show entryFrame m args 5 = _ from (congrArg (fun z => entryFrame m z 5) hargs).trans (lg_entry_eq m [.ref h0, .int r, .int i, .long v] 5)]
  generalize (lg_sl ([.ref h0, .int r, .int i, .long v]) ++ List.replicate (5 - (lg_sl ([.ref h0, .int r, .int i, .long v])).length) Slot.unset).toArray = ls at hl ⊢
  have hl : lv_has ls 5 [(0, .ref h0), (1, .int r), (2, .int i), (3, .long v)] := hl
  obtain ⟨H, hH⟩ : ∃ H, H = s.heap := ⟨_, rfl⟩
  rw [← hH] at hP
  have hS : va_S A s.heap H [] := by rw [hH]; exact hS
  rw [← hH]
  generalize ([] : List Loc) = locs at hS ⊢
  refine lv_aload_n hx hb dX0_put_0 rfl (lv_at hl 0 rfl) ?_
  refine va_get (D := (dC, dI)) (ci := 0) (v := .ref a1) (C := RX0) (T := TX0) (N := 8) hx hb hts inX0 hown hK hP 0 rfl rfl 0 (by decide) (hts _ bw_fl_X0_9) (fun _ h9 => h9) rfl dX0_put_1 ?_
  refine lv_aload_n hx hb dX0_put_4 rfl (lv_at hl 0 rfl) ?_
  refine lv_iload_n hx hb dX0_put_5 rfl (lv_at hl 1 rfl) ?_
  refine lv_iload_n hx hb dX0_put_6 rfl (lv_at hl 2 rfl) ?_
  refine hx_throwsW (vx_runV (As := [.int r, .int i]) (rest := [.ref a1]) ⟨hx, hb, hml, hown, hts⟩ (x_X0_numberCell l dC dI h0 a1 a2 a3 a4 c1 c2 c3 c4 ce rg tk ob co re rc np _ hl9 M hW hC r i k hk hk0) (cwV 2 hts gw_X0_70 rfl rfl rfl ⟨rfl, by decide, by decide, by decide +kernel⟩ ⟨Nat.le_of_ble_eq_true rfl, Nat.le_of_ble_eq_true rfl⟩) ⟨hx_blind, va_recv (q0 := 0) (ci := 0) (q := (RX0, TX0, 8)) hK hP rfl rfl, hx_pay hP hK hD hS hA hZ⟩ rfl rfl hl.1 rfl (lv_room (Nat.le_of_ble_eq_true rfl)) dX0_put_7 ⟨by decide, by decide⟩) hD hS hA (fun E ce9 q9 u9 H locs hb9 hP hD hS h1 h2 h3 => ?_)
  subst hQ9
  exact vx_out (fun x hx => (hEx x hx).elim) hlocks h1 h2 h3 (fun t ht ha => ⟨(), trivial, ⟨hb9, by rw [ht]; exact hP, va_K.moved ha hK, hD⟩, hS.F ht⟩) hS.2.2 (Nat.le_of_ble_eq_true rfl) (Nat.le_of_ble_eq_true rfl)

set_option maxHeartbeats 4000000 in
set_option maxRecDepth 100000 in
theorem x_X0_get (l : Launch) (dC : Nat → ClassId) (dI : Nat → Nat → Nat) (h0 a1 a2 a3 a4 : Nat) (c1 c2 c3 c4 : ClassId) (ce : Nat → Int64) (rg : Nat → Int32) (tk ob co : Int32) (re : Nat → Int32) (rc : Int32) (np : Nat → Int32) (sz : Nat) (hl9 : l.stackTraces = false) (M : hp_S) (hW : hp_W M) (hC : hp_C M ce rg tk ob co) (r i : Int32) (k : Nat) (hk : hp_lk M (hp_bad r 16) (hp_at M r) i (hp_k M (hp_at M r) = 2) k) (hk0 : k ≠ 0) : vx_Met l yX0_get wsX0_get ({ frames := 9, cells := 1, slots := 6, locals := 154 }) (va_Pc [.ref h0, .int r, .int i] (hx_pre (dC, dI) vwCl [(c1, .long), (c2, .int), (c3, .int), (c4, .int)] [(h0, .inr (0, [.ref a1, .ref a2, .int tk, .int ob, .int co, .ref a3, .int rc, .ref a4])), (a1, .inl (c1, 300, .inr (.inl ce))), (a2, .inl (c2, 16, .inl rg)), (a3, .inl (c3, 300, .inl re)), (a4, .inl (c4, 300, .inl np))] sz)) (fun _ _ _ _ => False) (vx_X (fun _ : Unit => True) (fun E u t => (fun (E : String) (_ : Unit) => hp_E2 E k) E u ∧ hw_B (dC, dI) vwCl [(c1, .long), (c2, .int), (c3, .int), (c4, .int)] (va_A [(h0, .inr (0, [.ref a1, .ref a2, .int tk, .int ob, .int co, .ref a3, .int rc, .ref a4])), (a1, .inl (c1, 300, .inr (.inl ce))), (a2, .inl (c2, 16, .inl rg)), (a3, .inl (c3, 300, .inl re)), (a4, .inl (c4, 300, .inl np))] sz) ((fun _ : Unit => [(h0, .inr (0, [.ref a1, .ref a2, .int tk, .int ob, .int co, .ref a3, .int rc, .ref a4])), (a1, .inl (c1, 300, .inr (.inl ce))), (a2, .inl (c2, 16, .inl rg)), (a3, .inl (c3, 300, .inl re)), (a4, .inl (c4, 300, .inl np))]) u) t) (va_A [(h0, .inr (0, [.ref a1, .ref a2, .int tk, .int ob, .int co, .ref a3, .int rc, .ref a4])), (a1, .inl (c1, 300, .inr (.inl ce))), (a2, .inl (c2, 16, .inl rg)), (a3, .inl (c3, 300, .inl re)), (a4, .inl (c4, 300, .inl np))] sz)) 1 6 (va_A [(h0, .inr (0, [.ref a1, .ref a2, .int tk, .int ob, .int co, .ref a3, .int rc, .ref a4])), (a1, .inl (c1, 300, .inr (.inl ce))), (a2, .inl (c2, 16, .inl rg)), (a3, .inl (c3, 300, .inl re)), (a4, .inl (c4, 300, .inl np))] sz) := by
  refine vx_ofW (cc := cX0_get) (maxL := 3) (ret := some .long) (by decide) rfl ?_
  intro p e s m args below meth c s₁ B hml hEx hv
  obtain ⟨hargs, hsz, hP, hK, hD0, hZ⟩ := hv
  have hx := B.exec
  have hb := B.bytes
  have hr := B.returns
  have hts : ∀ w ∈ wb, w.before _ s = true := fun w h => atoms_spec (ws := wsX0_get) B.pre w (List.mem_cons_of_mem _ h)
  have hown : s.vm.findClass RX0 = some m.cls := findClass_of_methodNamed B.named
  have hlocks := B.notSynchronized
  subst hsz
  have hD := hD0.self (sz := s.heap.size)
  generalize hAe : va_A [(h0, .inr (0, [.ref a1, .ref a2, .int tk, .int ob, .int co, .ref a3, .int rc, .ref a4])), (a1, .inl (c1, 300, .inr (.inl ce))), (a2, .inl (c2, 16, .inl rg)), (a3, .inl (c3, 300, .inl re)), (a4, .inl (c4, 300, .inl np))] s.heap.size = A at hD hZ ⊢
  have hA : ∀ q : Nat, s.heap.size ≤ q → A q := fun q h => by rw [← hAe]; exact Or.inr h
  have hS : va_S A s.heap s.heap [] := va_S.rf
  generalize hQ9 : vx_MQ below (fun _ _ _ _ => False) (vx_X (fun _ : Unit => True) (fun E u t => (fun (E : String) (_ : Unit) => hp_E2 E k) E u ∧ hw_B (dC, dI) vwCl [(c1, .long), (c2, .int), (c3, .int), (c4, .int)] A ((fun _ : Unit => [(h0, .inr (0, [.ref a1, .ref a2, .int tk, .int ob, .int co, .ref a3, .int rc, .ref a4])), (a1, .inl (c1, 300, .inr (.inl ce))), (a2, .inl (c2, 16, .inl rg)), (a3, .inl (c3, 300, .inl re)), (a4, .inl (c4, 300, .inl np))]) u) t) A) args s 1 6 A = Q9
  have hl := lv_entry ([.ref h0, .int r, .int i]) (n := 3) (Nat.le_of_ble_eq_true rfl)
  rw [show entryFrame m args 3 = _ from (congrArg (fun z => entryFrame m z 3) hargs).trans (lg_entry_eq m [.ref h0, .int r, .int i] 3)]
  generalize (lg_sl ([.ref h0, .int r, .int i]) ++ List.replicate (3 - (lg_sl ([.ref h0, .int r, .int i])).length) Slot.unset).toArray = ls at hl ⊢
  have hl : lv_has ls 3 [(0, .ref h0), (1, .int r), (2, .int i)] := hl
  obtain ⟨H, hH⟩ : ∃ H, H = s.heap := ⟨_, rfl⟩
  rw [← hH] at hP
  have hS : va_S A s.heap H [] := by rw [hH]; exact hS
  rw [← hH]
  generalize ([] : List Loc) = locs at hS ⊢
  refine lv_aload_n hx hb dX0_get_0 rfl (lv_at hl 0 rfl) ?_
  refine va_get (D := (dC, dI)) (ci := 0) (v := .ref a1) (C := RX0) (T := TX0) (N := 8) hx hb hts inX0 hown hK hP 0 rfl rfl 0 (by decide) (hts _ bw_fl_X0_9) (fun _ h9 => h9) rfl dX0_get_1 ?_
  refine lv_aload_n hx hb dX0_get_4 rfl (lv_at hl 0 rfl) ?_
  refine lv_iload_n hx hb dX0_get_5 rfl (lv_at hl 1 rfl) ?_
  refine lv_iload_n hx hb dX0_get_6 rfl (lv_at hl 2 rfl) ?_
  refine hx_throwsW (vx_runV (As := [.int r, .int i]) (rest := [.ref a1]) ⟨hx, hb, hml, hown, hts⟩ (x_X0_numberCell l dC dI h0 a1 a2 a3 a4 c1 c2 c3 c4 ce rg tk ob co re rc np _ hl9 M hW hC r i k hk hk0) (cwV 2 hts gw_X0_70 rfl rfl rfl ⟨rfl, by decide, by decide, by decide +kernel⟩ ⟨Nat.le_of_ble_eq_true rfl, Nat.le_of_ble_eq_true rfl⟩) ⟨hx_blind, va_recv (q0 := 0) (ci := 0) (q := (RX0, TX0, 8)) hK hP rfl rfl, hx_pay hP hK hD hS hA hZ⟩ rfl rfl hl.1 rfl (lv_room (Nat.le_of_ble_eq_true rfl)) dX0_get_7 ⟨by decide, by decide⟩) hD hS hA (fun E ce9 q9 u9 H locs hb9 hP hD hS h1 h2 h3 => ?_)
  subst hQ9
  exact vx_out (fun x hx => (hEx x hx).elim) hlocks h1 h2 h3 (fun t ht ha => ⟨(), trivial, ⟨hb9, by rw [ht]; exact hP, va_K.moved ha hK, hD⟩, hS.F ht⟩) hS.2.2 (Nat.le_of_ble_eq_true rfl) (Nat.le_of_ble_eq_true rfl)
