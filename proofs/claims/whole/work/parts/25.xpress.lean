set_option maxHeartbeats 4000000 in
set_option maxRecDepth 100000 in
/-- redirectContents() -/
theorem c_X0_redirectContents (l : Launch) (dC : Nat → ClassId) (dI : Nat → Nat → Nat) (h0 a1 a2 a3 a4 : Nat) (c1 c2 c3 c4 : ClassId) (ce : Nat → Int64) (rg : Nat → Int32) (tk ob co : Int32) (re : Nat → Int32) (rc : Int32) (np : Nat → Int32) (sz : Nat) (M : hp_S) (hW : hp_W M) (R : List Nat) (hR : R.Nodup) (hb9 : ∀ o, o ∈ R ↔ hp_b M o = true) (hrc : rc = nI R.length) (hre : ∀ j o, R[j]? = some o → re j = nI (hp_pl M o)) (hN : hp_N M (hp_L M) [] np) (hX : hp_X M [] ce) : Met l yX0_redirectContents wsX0_redirectContents ({ frames := 3, cells := 0, slots := 0, locals := 65 }) (va_Pc [.ref h0] (hw_pre (dC, dI) vwCl [(c1, .long), (c2, .int), (c3, .int), (c4, .int)] [(h0, .inr (0, [.ref a1, .ref a2, .int tk, .int ob, .int co, .ref a3, .int rc, .ref a4])), (a1, .inl (c1, 300, .inr (.inl ce))), (a2, .inl (c2, 16, .inl rg)), (a3, .inl (c3, 300, .inl re)), (a4, .inl (c4, 300, .inl np))] sz)) (va_Qv (fun u : Nat → Int64 => hp_X M R u) (fun u t => hw_B (dC, dI) vwCl [(c1, .long), (c2, .int), (c3, .int), (c4, .int)] (va_A [(h0, .inr (0, [.ref a1, .ref a2, .int tk, .int ob, .int co, .ref a3, .int rc, .ref a4])), (a1, .inl (c1, 300, .inr (.inl ce))), (a2, .inl (c2, 16, .inl rg)), (a3, .inl (c3, 300, .inl re)), (a4, .inl (c4, 300, .inl np))] sz) ((fun u : Nat → Int64 => [(h0, .inr (0, [.ref a1, .ref a2, .int tk, .int ob, .int co, .ref a3, .int rc, .ref a4])), (a1, .inl (c1, 300, .inr (.inl u))), (a2, .inl (c2, 16, .inl rg)), (a3, .inl (c3, 300, .inl re)), (a4, .inl (c4, 300, .inl np))]) u) t) (va_A [(h0, .inr (0, [.ref a1, .ref a2, .int tk, .int ob, .int co, .ref a3, .int rc, .ref a4])), (a1, .inl (c1, 300, .inr (.inl ce))), (a2, .inl (c2, 16, .inl rg)), (a3, .inl (c3, 300, .inl re)), (a4, .inl (c4, 300, .inl np))] sz)) 0 0 (va_A [(h0, .inr (0, [.ref a1, .ref a2, .int tk, .int ob, .int co, .ref a3, .int rc, .ref a4])), (a1, .inl (c1, 300, .inr (.inl ce))), (a2, .inl (c2, 16, .inl rg)), (a3, .inl (c3, 300, .inl re)), (a4, .inl (c4, 300, .inl np))] sz) := by
  refine Met.ofW (cc := cX0_redirectContents) (maxL := 3) (ret := none) (by decide) rfl ?_
  intro p e s m args below meth c s₁ B hml hv
  obtain ⟨hargs, hsz, hP, hK, hD0⟩ := hv
  have hx := B.exec
  have hb := B.bytes
  have hr := B.returns
  have hts : ∀ w ∈ wb, w.before _ s = true := fun w h => atoms_spec (ws := wsX0_redirectContents) B.pre w (List.mem_cons_of_mem _ h)
  have hown : s.vm.findClass RX0 = some m.cls := findClass_of_methodNamed B.named
  have hlocks := B.notSynchronized
  subst hsz
  have hD := hD0.self (sz := s.heap.size)
  generalize hAe : va_A [(h0, .inr (0, [.ref a1, .ref a2, .int tk, .int ob, .int co, .ref a3, .int rc, .ref a4])), (a1, .inl (c1, 300, .inr (.inl ce))), (a2, .inl (c2, 16, .inl rg)), (a3, .inl (c3, 300, .inl re)), (a4, .inl (c4, 300, .inl np))] s.heap.size = A at hD ⊢
  have hA : ∀ q : Nat, s.heap.size ≤ q → A q := fun q h => by rw [← hAe]; exact Or.inr h
  have hS : va_S A s.heap s.heap [] := va_S.rf
  generalize hQ9 : MQ below (va_Qv (fun u : Nat → Int64 => hp_X M R u) (fun u t => hw_B (dC, dI) vwCl [(c1, .long), (c2, .int), (c3, .int), (c4, .int)] A ((fun u : Nat → Int64 => [(h0, .inr (0, [.ref a1, .ref a2, .int tk, .int ob, .int co, .ref a3, .int rc, .ref a4])), (a1, .inl (c1, 300, .inr (.inl u))), (a2, .inl (c2, 16, .inl rg)), (a3, .inl (c3, 300, .inl re)), (a4, .inl (c4, 300, .inl np))]) u) t) A) args s 0 0 A = Q9
  have hl := lv_entry ([.ref h0]) (n := 3) (Nat.le_of_ble_eq_true rfl)
  rw [show entryFrame m args 3 = _ from (congrArg (fun z => entryFrame m z 3) hargs).trans (lg_entry_eq m [.ref h0] 3)]
  generalize (lg_sl ([.ref h0]) ++ List.replicate (3 - (lg_sl ([.ref h0])).length) Slot.unset).toArray = ls at hl ⊢
  have hl : lv_has ls 3 [(0, .ref h0)] := hl
  obtain ⟨H, hH⟩ : ∃ H, H = s.heap := ⟨_, rfl⟩
  rw [← hH] at hP
  have hS : va_S A s.heap H [] := by rw [hH]; exact hS
  rw [← hH]
  generalize ([] : List Loc) = locs at hS ⊢
  have hRl : R.length ≤ 300 := Nat.le_trans (hp_sub_len hR (fun o h => hp_b_in hW ((hb9 o).mp h))) (hp_L_len hW)
  refine lv_iconst (v := 0) hx hb dX0_redirectContents_0 (by decide) ?_
  refine hw_topi (y := nI 0) (nI_0.symm) ?_
  refine lv_istore_n hx hb dX0_redirectContents_1 rfl hl (by decide) rfl (fun ls hl => ?_)
  have hl : lv_has ls 3 [(1, .int (nI 0)), (0, .ref h0)] := hl
  have loop : ∀ (n9 : Nat) (k : Nat) (ce : Nat → Int64) (H : Heap) (locs : List Loc) (ls : Array Slot), R.length - k < n9 → (k ≤ R.length ∧ hp_X M (R.take k) ce) → va_P (dC, dI) vwCl [(h0, .inr (0, [.ref a1, .ref a2, .int tk, .int ob, .int co, .ref a3, .int rc, .ref a4])), (a1, .inl (c1, 300, .inr (.inl ce))), (a2, .inl (c2, 16, .inl rg)), (a3, .inl (c3, 300, .inl re)), (a4, .inl (c4, 300, .inl np))] H → va_D A [(h0, .inr (0, [.ref a1, .ref a2, .int tk, .int ob, .int co, .ref a3, .int rc, .ref a4])), (a1, .inl (c1, 300, .inr (.inl ce))), (a2, .inl (c2, 16, .inl rg)), (a3, .inl (c3, 300, .inl re)), (a4, .inl (c4, 300, .inl np))] → va_S A s.heap H locs → lv_has ls 3 [(1, .int (nI k)), (0, .ref h0)] → W p l e (headSpec wsX0_redirectContents ({ frames := 3, cells := 0, slots := 0, locals := 65 })).room s m args below meth c H locs 0 0 Q9 (F0 m 2 ls []) := by
    intro n9
    induction n9 with
    | zero => intro k ce H locs ls hm; exact absurd hm (Nat.not_lt_zero _)
    | succ n9 ih =>
      intro k ce H locs ls hm hI hP hD hS hl
      refine lv_iload_n hx hb dX0_redirectContents_2 rfl (lv_at hl 0 rfl) ?_
      refine lv_aload_n hx hb dX0_redirectContents_3 rfl (lv_at hl 1 rfl) ?_
      refine va_get (D := (dC, dI)) (ci := 0) (v := .int rc) (C := RX0) (T := TX0) (N := 8) hx hb hts inX0 hown hK hP 0 rfl rfl 6 (by decide) (hts _ bw_fl_X0_30) (fun _ h9 => h9) rfl dX0_redirectContents_4 ?_
      refine lv_icmp_ge hx hb dX0_redirectContents_7 (tgt := 37) (by decide) (fun hc => ?_) (fun hc => ?_)
      · rw [hrc] at hc
        have hk := (nI_leI (by omega) (by omega)).mp hc
        have hend := hI.2
        rw [hp_take_all hk] at hend
        subst hQ9
        exact W.vret hx hb hr (fun t ht hWm => ⟨⟨ce, rfl, hend, by rw [ht]; exact hP, va_K.moved hWm.alike hK, hD⟩, hS.F ht⟩) hS.2.2 dX0_redirectContents_37
      · have hk : k < R.length := Nat.lt_of_not_le (fun h9 => hc (by rw [hrc]; exact (nI_leI (by omega) (by omega)).mpr h9))
        obtain ⟨o, ho⟩ : ∃ o, R[k]? = some o := ⟨_, List.getElem?_eq_getElem hk⟩
        have hbo := (hb9 o).mp (List.mem_of_getElem? ho)
        have hoL := hp_b_in hW hbo
        have hcell := hI.2 o hoL
        have hlt := hp_pl_lt hW hoL
        have hnot := hp_take_not hR ho
        refine lv_aload_n hx hb dX0_redirectContents_10 rfl (lv_at hl 1 rfl) ?_
        refine va_get (D := (dC, dI)) (ci := 0) (v := .ref a3) (C := RX0) (T := TX0) (N := 8) hx hb hts inX0 hown hK hP 0 rfl rfl 5 (by decide) (hts _ bw_fl_X0_27) (fun _ h9 => h9) rfl dX0_redirectContents_11 ?_
        refine lv_iload_n hx hb dX0_redirectContents_14 rfl (lv_at hl 0 rfl) ?_
        refine hw_iald (j := k) hx hb hK hP 3 2 rfl rfl (rfl) (by omega) (by decide) dX0_redirectContents_15 ?_
        refine hw_topi (y := nI (hp_pl M o)) (hre k o ho) ?_
        refine lv_istore_n hx hb dX0_redirectContents_16 rfl hl (by decide) rfl (fun ls hl => ?_)
        have hl : lv_has ls 3 [(2, .int (nI (hp_pl M o))), (1, .int (nI k)), (0, .ref h0)] := hl
        refine lv_aload_n hx hb dX0_redirectContents_17 rfl (lv_at hl 2 rfl) ?_
        refine lv_iload_n hx hb dX0_redirectContents_18 rfl (lv_at hl 0 rfl) ?_
        refine W.callR (W.runV (As := [.int (nI (hp_pl M o))]) (rest := []) ⟨hx, hb, hml, hown, hts⟩ (c_X0_kindAt l dC dI h0 a1 a2 a3 a4 c1 c2 c3 c4 ce rg tk ob co re rc np _ (by omega)) (cwV 1 hts gw_X0_59 rfl rfl rfl ⟨rfl, by decide, by decide, by decide +kernel⟩ ⟨Nat.le_of_ble_eq_true rfl, Nat.le_of_ble_eq_true rfl⟩) ⟨hw_blind, va_recv (q0 := 0) (ci := 0) (q := (RX0, TX0, 8)) hK hP rfl rfl, hw_pay hP hK hD⟩ rfl rfl hl.1 rfl (lv_room (Nat.le_of_ble_eq_true rfl)) dX0_redirectContents_19 ⟨by decide, by decide⟩) ?_
        refine W.eq (g2 := F0 m 22 ls [.int ((ce (hp_pl M o)).toInt32 &&& 3)]) rfl ?_
        refine hw_topi (y := nI (hp_k M o)) (hp_rkind hW hoL hcell.1) ?_
        refine lv_iconst (v := 2) hx hb dX0_redirectContents_22 (by decide) ?_
        refine lv_icmp_eq hx hb dX0_redirectContents_23 (tgt := 31) (by decide) (fun hc => ?_) (fun hc => ?_)
        · have hk2 : hp_k M o = 2 := (hp_k1 hW hoL (n := 2) (by decide)).mp hc
          refine lv_iinc (k := 1) (v := nI (k + 1)) hx hb dX0_redirectContents_31 hl rfl (nI_1 k) (by decide) rfl (fun ls hl => ?_)
          have hl : lv_has ls 3 [(1, .int (nI (k + 1))), (2, .int (nI (hp_pl M o))), (0, .ref h0)] := hl
          refine lv_goto hx hb dX0_redirectContents_34 (tgt := 2) (by decide) ?_
          exact ih (k + 1) ce H locs ls (by omega) (⟨hk, by rw [hp_take ho]; exact hp_X_num hI.2 hbo hk2⟩) hP hD hS (lv_sub hl [0, 2] rfl)
        · have hk2 : hp_k M o ≠ 2 := fun h9 => hc (by rw [h9]; decide)
          refine lv_aload_n hx hb dX0_redirectContents_26 rfl (lv_at hl 2 rfl) ?_
          refine lv_iload_n hx hb dX0_redirectContents_27 rfl (lv_at hl 0 rfl) ?_
          refine hw_callv (va_runV (As := [.int (nI (hp_pl M o))]) (rest := []) ⟨hx, hb, hml, hown, hts⟩ (c_X0_redirectContentsAt l dC dI h0 a1 a2 a3 a4 c1 c2 c3 c4 ce rg tk ob co re rc np _ M hW o hoL hcell.1 (fun i hi => by
              have h1 := hcell.2 i hi
              rw [if_neg hnot] at h1
              rw [show hp_pl M o + 1 + i = hp_pl M o + (1 + i) from by omega, hp_rref hk2 h1]
              exact hp_e_ix hW (hW.2.2.2.2.1 o hoL hk2 i hi))) (cwV 1 hts gw_X0_127 rfl rfl rfl ⟨rfl, by decide, by decide, by decide +kernel⟩ ⟨Nat.le_of_ble_eq_true rfl, Nat.le_of_ble_eq_true rfl⟩) ⟨hw_blind, va_recv (q0 := 0) (ci := 0) (q := (RX0, TX0, 8)) hK hP rfl rfl, hw_pay hP hK hD⟩ rfl rfl hl.1 rfl (lv_room (Nat.le_of_ble_eq_true rfl)) dX0_redirectContents_28 ⟨by decide, by decide⟩) hD hS hA (fun u9 H locs hw hP hD hS => ?_)
          obtain ⟨ce1, hce1⟩ : ∃ z, z = u9 := ⟨_, rfl⟩
          rw [← hce1] at hP hD hw
          have hP : va_P (dC, dI) vwCl [(h0, .inr (0, [.ref a1, .ref a2, .int tk, .int ob, .int co, .ref a3, .int rc, .ref a4])), (a1, .inl (c1, 300, .inr (.inl ce1))), (a2, .inl (c2, 16, .inl rg)), (a3, .inl (c3, 300, .inl re)), (a4, .inl (c4, 300, .inl np))] H := hP
          have hD : va_D A [(h0, .inr (0, [.ref a1, .ref a2, .int tk, .int ob, .int co, .ref a3, .int rc, .ref a4])), (a1, .inl (c1, 300, .inr (.inl ce1))), (a2, .inl (c2, 16, .inl rg)), (a3, .inl (c3, 300, .inl re)), (a4, .inl (c4, 300, .inl np))] := hD
          refine lv_iinc (k := 1) (v := nI (k + 1)) hx hb dX0_redirectContents_31 hl rfl (nI_1 k) (by decide) rfl (fun ls hl => ?_)
          have hl : lv_has ls 3 [(1, .int (nI (k + 1))), (2, .int (nI (hp_pl M o))), (0, .ref h0)] := hl
          refine lv_goto hx hb dX0_redirectContents_34 (tgt := 2) (by decide) ?_
          exact ih (k + 1) ce1 H locs ls (by omega) (⟨hk, by rw [hp_take ho, hw]; exact hp_X_ref hW hI.2 hN hbo hk2 hnot⟩) hP hD hS (lv_sub hl [0, 2] rfl)
  exact loop _ 0 ce H locs ls (Nat.lt_succ_self _) (⟨Nat.zero_le _, hX⟩) hP hD hS (lv_sub hl [0, 1] rfl)

set_option maxHeartbeats 4000000 in
set_option maxRecDepth 100000 in
/-- moveDown() -/
theorem c_X0_moveDown (l : Launch) (dC : Nat → ClassId) (dI : Nat → Nat → Nat) (h0 a1 a2 a3 a4 : Nat) (c1 c2 c3 c4 : ClassId) (ce : Nat → Int64) (rg : Nat → Int32) (tk ob co : Int32) (re : Nat → Int32) (rc : Int32) (np : Nat → Int32) (sz : Nat) (M : hp_S) (hW : hp_W M) (hob : ob = nI (hp_L M).length) (hN : hp_N M (hp_L M) [] np) (hV : hp_V M [] (hp_L M) ce) : Met l yX0_moveDown wsX0_moveDown ({ frames := 2, cells := 0, slots := 0, locals := 60 }) (va_Pc [.ref h0] (hw_pre (dC, dI) vwCl [(c1, .long), (c2, .int), (c3, .int), (c4, .int)] [(h0, .inr (0, [.ref a1, .ref a2, .int tk, .int ob, .int co, .ref a3, .int rc, .ref a4])), (a1, .inl (c1, 300, .inr (.inl ce))), (a2, .inl (c2, 16, .inl rg)), (a3, .inl (c3, 300, .inl re)), (a4, .inl (c4, 300, .inl np))] sz)) (va_Qv (fun u : Nat → Int64 => hp_V M (hp_L M) [] u) (fun u t => hw_B (dC, dI) vwCl [(c1, .long), (c2, .int), (c3, .int), (c4, .int)] (va_A [(h0, .inr (0, [.ref a1, .ref a2, .int tk, .int ob, .int co, .ref a3, .int rc, .ref a4])), (a1, .inl (c1, 300, .inr (.inl ce))), (a2, .inl (c2, 16, .inl rg)), (a3, .inl (c3, 300, .inl re)), (a4, .inl (c4, 300, .inl np))] sz) ((fun u : Nat → Int64 => [(h0, .inr (0, [.ref a1, .ref a2, .int tk, .int ob, .int co, .ref a3, .int rc, .ref a4])), (a1, .inl (c1, 300, .inr (.inl u))), (a2, .inl (c2, 16, .inl rg)), (a3, .inl (c3, 300, .inl re)), (a4, .inl (c4, 300, .inl np))]) u) t) (va_A [(h0, .inr (0, [.ref a1, .ref a2, .int tk, .int ob, .int co, .ref a3, .int rc, .ref a4])), (a1, .inl (c1, 300, .inr (.inl ce))), (a2, .inl (c2, 16, .inl rg)), (a3, .inl (c3, 300, .inl re)), (a4, .inl (c4, 300, .inl np))] sz)) 0 0 (va_A [(h0, .inr (0, [.ref a1, .ref a2, .int tk, .int ob, .int co, .ref a3, .int rc, .ref a4])), (a1, .inl (c1, 300, .inr (.inl ce))), (a2, .inl (c2, 16, .inl rg)), (a3, .inl (c3, 300, .inl re)), (a4, .inl (c4, 300, .inl np))] sz) := by
  refine Met.ofW (cc := cX0_moveDown) (maxL := 4) (ret := none) (by decide) rfl ?_
  intro p e s m args below meth c s₁ B hml hv
  obtain ⟨hargs, hsz, hP, hK, hD0⟩ := hv
  have hx := B.exec
  have hb := B.bytes
  have hr := B.returns
  have hts : ∀ w ∈ wb, w.before _ s = true := fun w h => atoms_spec (ws := wsX0_moveDown) B.pre w (List.mem_cons_of_mem _ h)
  have hown : s.vm.findClass RX0 = some m.cls := findClass_of_methodNamed B.named
  have hlocks := B.notSynchronized
  subst hsz
  have hD := hD0.self (sz := s.heap.size)
  generalize hAe : va_A [(h0, .inr (0, [.ref a1, .ref a2, .int tk, .int ob, .int co, .ref a3, .int rc, .ref a4])), (a1, .inl (c1, 300, .inr (.inl ce))), (a2, .inl (c2, 16, .inl rg)), (a3, .inl (c3, 300, .inl re)), (a4, .inl (c4, 300, .inl np))] s.heap.size = A at hD ⊢
  have hA : ∀ q : Nat, s.heap.size ≤ q → A q := fun q h => by rw [← hAe]; exact Or.inr h
  have hS : va_S A s.heap s.heap [] := va_S.rf
  generalize hQ9 : MQ below (va_Qv (fun u : Nat → Int64 => hp_V M (hp_L M) [] u) (fun u t => hw_B (dC, dI) vwCl [(c1, .long), (c2, .int), (c3, .int), (c4, .int)] A ((fun u : Nat → Int64 => [(h0, .inr (0, [.ref a1, .ref a2, .int tk, .int ob, .int co, .ref a3, .int rc, .ref a4])), (a1, .inl (c1, 300, .inr (.inl u))), (a2, .inl (c2, 16, .inl rg)), (a3, .inl (c3, 300, .inl re)), (a4, .inl (c4, 300, .inl np))]) u) t) A) args s 0 0 A = Q9
  have hl := lv_entry ([.ref h0]) (n := 4) (Nat.le_of_ble_eq_true rfl)
  rw [show entryFrame m args 4 = _ from (congrArg (fun z => entryFrame m z 4) hargs).trans (lg_entry_eq m [.ref h0] 4)]
  generalize (lg_sl ([.ref h0]) ++ List.replicate (4 - (lg_sl ([.ref h0])).length) Slot.unset).toArray = ls at hl ⊢
  have hl : lv_has ls 4 [(0, .ref h0)] := hl
  obtain ⟨H, hH⟩ : ∃ H, H = s.heap := ⟨_, rfl⟩
  rw [← hH] at hP
  have hS : va_S A s.heap H [] := by rw [hH]; exact hS
  rw [← hH]
  generalize ([] : List Loc) = locs at hS ⊢
  refine lv_iconst (v := 0) hx hb dX0_moveDown_0 (by decide) ?_
  refine hw_topi (y := nI (hp_t (hp_z M) [])) (nI_0.symm) ?_
  refine lv_istore_n hx hb dX0_moveDown_1 rfl hl (by decide) rfl (fun ls hl => ?_)
  have hl : lv_has ls 4 [(1, .int (nI (hp_t (hp_z M) []))), (0, .ref h0)] := hl
  refine lv_iconst (v := 0) hx hb dX0_moveDown_2 (by decide) ?_
  refine hw_topi (y := nI ([] : List Nat).length) (nI_0.symm) ?_
  refine lv_istore_n hx hb dX0_moveDown_3 rfl hl (by decide) rfl (fun ls hl => ?_)
  have hl : lv_has ls 4 [(2, .int (nI ([] : List Nat).length)), (1, .int (nI (hp_t (hp_z M) []))), (0, .ref h0)] := hl
  have loop : ∀ (n9 : Nat) (pre : List Nat) (suf : List Nat) (ce : Nat → Int64) (H : Heap) (locs : List Loc) (ls : Array Slot), suf.length < n9 → (hp_L M = pre ++ suf ∧ hp_V M pre suf ce) → va_P (dC, dI) vwCl [(h0, .inr (0, [.ref a1, .ref a2, .int tk, .int ob, .int co, .ref a3, .int rc, .ref a4])), (a1, .inl (c1, 300, .inr (.inl ce))), (a2, .inl (c2, 16, .inl rg)), (a3, .inl (c3, 300, .inl re)), (a4, .inl (c4, 300, .inl np))] H → va_D A [(h0, .inr (0, [.ref a1, .ref a2, .int tk, .int ob, .int co, .ref a3, .int rc, .ref a4])), (a1, .inl (c1, 300, .inr (.inl ce))), (a2, .inl (c2, 16, .inl rg)), (a3, .inl (c3, 300, .inl re)), (a4, .inl (c4, 300, .inl np))] → va_S A s.heap H locs → lv_has ls 4 [(2, .int (nI pre.length)), (1, .int (nI (hp_t (hp_z M) pre))), (0, .ref h0)] → W p l e (headSpec wsX0_moveDown ({ frames := 2, cells := 0, slots := 0, locals := 60 })).room s m args below meth c H locs 0 0 Q9 (F0 m 4 ls []) := by
    intro n9
    induction n9 with
    | zero => intro pre suf ce H locs ls hm; exact absurd hm (Nat.not_lt_zero _)
    | succ n9 ih =>
      intro pre suf ce H locs ls hm hI hP hD hS hl
      refine lv_iload_n hx hb dX0_moveDown_4 rfl (lv_at hl 0 rfl) ?_
      refine lv_aload_n hx hb dX0_moveDown_5 rfl (lv_at hl 2 rfl) ?_
      refine va_get (D := (dC, dI)) (ci := 0) (v := .int ob) (C := RX0) (T := TX0) (N := 8) hx hb hts inX0 hown hK hP 0 rfl rfl 3 (by decide) (hts _ bw_fl_X0_21) (fun _ h9 => h9) rfl dX0_moveDown_6 ?_
      refine lv_icmp_ge hx hb dX0_moveDown_9 (tgt := 57) (by decide) (fun hc => ?_) (fun hc => ?_)
      · have hlen := congrArg List.length hI.1
        rw [List.length_append] at hlen
        have hL3 := hp_L_len hW
        rw [hob] at hc
        have hs : suf = [] := List.length_eq_zero_iff.mp (by have h1 := (nI_leI (by omega) (by omega)).mp hc; omega)
        subst hs
        have hpre : hp_L M = pre := by rw [hI.1, List.append_nil]
        subst hQ9
        exact W.vret hx hb hr (fun t ht hWm => ⟨⟨ce, rfl, by rw [hpre]; exact hI.2, by rw [ht]; exact hP, va_K.moved hWm.alike hK, hD⟩, hS.F ht⟩) hS.2.2 dX0_moveDown_57
      · have hlen := congrArg List.length hI.1
        rw [List.length_append] at hlen
        have hL3 := hp_L_len hW
        rw [hob] at hc
        have hs : 0 < suf.length := Nat.pos_of_ne_zero (fun h9 => hc ((nI_leI (by omega) (by omega)).mpr (by omega)))
        obtain ⟨o, suf2, rfl⟩ : ∃ o suf2, suf = o :: suf2 := by
          cases suf with
          | nil => exact absurd hs (Nat.lt_irrefl _)
          | cons o suf2 => exact ⟨o, suf2, rfl⟩
        have hpo := hp_old_at hW hI.1
        have ho : o ∈ hp_L M := by rw [hI.1]; simp
        have hlt := hp_pl_lt hW ho
        have hnb := hp_nb hW ho (hp_new_lt' hW o) (hN.1 o ho)
        rw [hpo] at hnb
        have hcell := hI.2.2 o List.mem_cons_self
        refine lv_aload_n hx hb dX0_moveDown_12 rfl (lv_at hl 2 rfl) ?_
        refine lv_iload_n hx hb dX0_moveDown_13 rfl (lv_at hl 1 rfl) ?_
        refine W.callR (W.runV (As := [.int (nI (hp_t (hp_z M) pre))]) (rest := []) ⟨hx, hb, hml, hown, hts⟩ (c_X0_sizeAt l dC dI h0 a1 a2 a3 a4 c1 c2 c3 c4 ce rg tk ob co re rc np _ (by omega)) (cwV 1 hts gw_X0_121 rfl rfl rfl ⟨rfl, by decide, by decide, by decide +kernel⟩ ⟨Nat.le_of_ble_eq_true rfl, Nat.le_of_ble_eq_true rfl⟩) ⟨hw_blind, va_recv (q0 := 0) (ci := 0) (q := (RX0, TX0, 8)) hK hP rfl rfl, hw_pay hP hK hD⟩ rfl rfl hl.1 rfl (lv_room (Nat.le_of_ble_eq_true rfl)) dX0_moveDown_14 ⟨by decide, by decide⟩) ?_
        refine W.eq (g2 := F0 m 17 ls [.int (1 + (ce (hp_t (hp_z M) pre)).toInt32 >>> ((2 : Int32) &&& 31))]) rfl ?_
        refine hw_topi (y := nI (1 + hp_z M o)) (by rw [← hpo]; exact hp_rsize hW ho hcell.1) ?_
        refine lv_istore_n hx hb dX0_moveDown_17 rfl hl (by decide) rfl (fun ls hl => ?_)
        have hl : lv_has ls 4 [(3, .int (nI (1 + hp_z M o))), (2, .int (nI pre.length)), (1, .int (nI (hp_t (hp_z M) pre))), (0, .ref h0)] := hl
        refine lv_aload_n hx hb dX0_moveDown_18 rfl (lv_at hl 3 rfl) ?_
        refine va_get (D := (dC, dI)) (ci := 0) (v := .ref a4) (C := RX0) (T := TX0) (N := 8) hx hb hts inX0 hown hK hP 0 rfl rfl 7 (by decide) (hts _ bw_fl_X0_33) (fun _ h9 => h9) rfl dX0_moveDown_19 ?_
        refine lv_iload_n hx hb dX0_moveDown_22 rfl (lv_at hl 2 rfl) ?_
        refine hw_iald (j := hp_t (hp_z M) pre) hx hb hK hP 4 3 rfl rfl (rfl) (by omega) (by decide) dX0_moveDown_23 ?_
        refine lv_iconst (v := (-1)) hx hb dX0_moveDown_24 (by decide) ?_
        refine lv_icmp_eq hx hb dX0_moveDown_25 (tgt := 47) (by decide) (fun hc => ?_) (fun hc => ?_)
        · have hbo := hnb.mp hc
          refine lv_iload_n hx hb dX0_moveDown_47 rfl (lv_at hl 2 rfl) ?_
          refine lv_iload_n hx hb dX0_moveDown_48 rfl (lv_at hl 0 rfl) ?_
          refine lv_iadd hx hb dX0_moveDown_49 ?_
          refine hw_topi (y := nI (hp_t (hp_z M) (pre ++ [o]))) (by rw [hp_t_snoc]; exact nI_add _ _) ?_
          refine lv_istore_n hx hb dX0_moveDown_50 rfl hl (by decide) rfl (fun ls hl => ?_)
          have hl : lv_has ls 4 [(1, .int (nI (hp_t (hp_z M) (pre ++ [o])))), (3, .int (nI (1 + hp_z M o))), (2, .int (nI pre.length)), (0, .ref h0)] := hl
          refine lv_iinc (k := 2) (v := nI (pre ++ [o]).length) hx hb dX0_moveDown_51 hl rfl (by rw [List.length_append]; exact nI_1 _) (by decide) rfl (fun ls hl => ?_)
          have hl : lv_has ls 4 [(2, .int (nI (pre ++ [o]).length)), (1, .int (nI (hp_t (hp_z M) (pre ++ [o])))), (3, .int (nI (1 + hp_z M o))), (0, .ref h0)] := hl
          refine lv_goto hx hb dX0_moveDown_54 (tgt := 4) (by decide) ?_
          exact ih (pre ++ [o]) suf2 ce H locs ls (by simp only [List.length_cons] at hm; omega) (⟨by rw [hI.1, List.append_assoc]; rfl, hp_V_f hI.2 hbo⟩) hP hD hS (lv_sub hl [0, 1, 3] rfl)
        · have hbo : hp_b M o = true := Classical.byContradiction fun h9 => hc (hnb.mpr h9)
          have hnew := hp_new_lt hW hbo
          have hnp : np (hp_t (hp_z M) pre) = nI (hp_pl (hp_col M) o) := by rw [← hpo, hN.1 o ho, if_pos hbo]; rfl
          refine lv_aload_n hx hb dX0_moveDown_28 rfl (lv_at hl 3 rfl) ?_
          refine va_get (D := (dC, dI)) (ci := 0) (v := .ref a1) (C := RX0) (T := TX0) (N := 8) hx hb hts inX0 hown hK hP 0 rfl rfl 0 (by decide) (hts _ bw_fl_X0_9) (fun _ h9 => h9) rfl dX0_moveDown_29 ?_
          refine lv_iload_n hx hb dX0_moveDown_32 rfl (lv_at hl 2 rfl) ?_
          refine lv_aload_n hx hb dX0_moveDown_33 rfl (lv_at hl 3 rfl) ?_
          refine va_get (D := (dC, dI)) (ci := 0) (v := .ref a1) (C := RX0) (T := TX0) (N := 8) hx hb hts inX0 hown hK hP 0 rfl rfl 0 (by decide) (hts _ bw_fl_X0_9) (fun _ h9 => h9) rfl dX0_moveDown_34 ?_
          refine lv_aload_n hx hb dX0_moveDown_37 rfl (lv_at hl 3 rfl) ?_
          refine va_get (D := (dC, dI)) (ci := 0) (v := .ref a4) (C := RX0) (T := TX0) (N := 8) hx hb hts inX0 hown hK hP 0 rfl rfl 7 (by decide) (hts _ bw_fl_X0_33) (fun _ h9 => h9) rfl dX0_moveDown_38 ?_
          refine lv_iload_n hx hb dX0_moveDown_41 rfl (lv_at hl 2 rfl) ?_
          refine hw_iald (j := hp_t (hp_z M) pre) hx hb hK hP 4 3 rfl rfl (rfl) (by omega) (by decide) dX0_moveDown_42 ?_
          refine hw_topi (y := nI (hp_pl (hp_col M) o)) (hnp) ?_
          refine lv_iload_n hx hb dX0_moveDown_43 rfl (lv_at hl 0 rfl) ?_
          refine va_copyl (own := RX0) hx hb (hml.trans hl.1.symm) hown (hts _ bw_ml_X0_130) (hts _ bw_na_arraycopyName) (hts _ bw_st_arraycopyName) (hts _ bw_in_java_lang_System) hK hP hD hS 1 1 0 0 (ty := .long) rfl rfl rfl rfl rfl (nI_pos (by omega)) (nI_pos (by omega)) (nI_pos (by omega)) (by rw [nI_clamp (by omega), nI_clamp (by omega)]; omega) (by rw [nI_clamp (by omega), nI_clamp (by omega)]; omega) (fun i hi => rfl) (by decide) (by decide) dX0_moveDown_44 (fun H locs hP hD hS => ?_)
          rw [nI_clamp (by omega), nI_clamp (by omega), nI_clamp (by omega), ← hpo] at hP hD
          have hP : va_P (dC, dI) vwCl [(h0, .inr (0, [.ref a1, .ref a2, .int tk, .int ob, .int co, .ref a3, .int rc, .ref a4])), (a1, .inl (c1, 300, .inr (.inl (va_cpy ce ce (hp_pl M o) (hp_pl (hp_col M) o) (1 + hp_z M o))))), (a2, .inl (c2, 16, .inl rg)), (a3, .inl (c3, 300, .inl re)), (a4, .inl (c4, 300, .inl np))] H := hP
          have hD : va_D A [(h0, .inr (0, [.ref a1, .ref a2, .int tk, .int ob, .int co, .ref a3, .int rc, .ref a4])), (a1, .inl (c1, 300, .inr (.inl (va_cpy ce ce (hp_pl M o) (hp_pl (hp_col M) o) (1 + hp_z M o))))), (a2, .inl (c2, 16, .inl rg)), (a3, .inl (c3, 300, .inl re)), (a4, .inl (c4, 300, .inl np))] := hD
          refine lv_iload_n hx hb dX0_moveDown_47 rfl (lv_at hl 2 rfl) ?_
          refine lv_iload_n hx hb dX0_moveDown_48 rfl (lv_at hl 0 rfl) ?_
          refine lv_iadd hx hb dX0_moveDown_49 ?_
          refine hw_topi (y := nI (hp_t (hp_z M) (pre ++ [o]))) (by rw [hp_t_snoc]; exact nI_add _ _) ?_
          refine lv_istore_n hx hb dX0_moveDown_50 rfl hl (by decide) rfl (fun ls hl => ?_)
          have hl : lv_has ls 4 [(1, .int (nI (hp_t (hp_z M) (pre ++ [o])))), (3, .int (nI (1 + hp_z M o))), (2, .int (nI pre.length)), (0, .ref h0)] := hl
          refine lv_iinc (k := 2) (v := nI (pre ++ [o]).length) hx hb dX0_moveDown_51 hl rfl (by rw [List.length_append]; exact nI_1 _) (by decide) rfl (fun ls hl => ?_)
          have hl : lv_has ls 4 [(2, .int (nI (pre ++ [o]).length)), (1, .int (nI (hp_t (hp_z M) (pre ++ [o])))), (3, .int (nI (1 + hp_z M o))), (0, .ref h0)] := hl
          refine lv_goto hx hb dX0_moveDown_54 (tgt := 4) (by decide) ?_
          exact ih (pre ++ [o]) suf2 (va_cpy ce ce (hp_pl M o) (hp_pl (hp_col M) o) (1 + hp_z M o)) H locs ls (by simp only [List.length_cons] at hm; omega) (⟨by rw [hI.1, List.append_assoc]; rfl, hp_V_t hW hI.1 hI.2 hbo⟩) hP hD hS (lv_sub hl [0, 1, 3] rfl)
  exact loop _ ([]) (hp_L M) ce H locs ls (Nat.lt_succ_self _) (⟨rfl, hV⟩) hP hD hS (lv_sub hl [0, 1, 2] rfl)

set_option maxHeartbeats 4000000 in
set_option maxRecDepth 100000 in
/-- pressTogether() -/
theorem c_X0_pressTogether (l : Launch) (dC : Nat → ClassId) (dI : Nat → Nat → Nat) (h0 a1 a2 a3 a4 : Nat) (c1 c2 c3 c4 : ClassId) (ce : Nat → Int64) (rg : Nat → Int32) (tk ob co : Int32) (re : Nat → Int32) (rc : Int32) (np : Nat → Int32) (sz : Nat) (M : hp_S) (hW : hp_W M) (hC : hp_C M ce rg tk ob co) : Met l yX0_pressTogether wsX0_pressTogether ({ frames := 4, cells := 0, slots := 0, locals := 90 }) (va_Pc [.ref h0] (hw_pre (dC, dI) vwCl [(c1, .long), (c2, .int), (c3, .int), (c4, .int)] [(h0, .inr (0, [.ref a1, .ref a2, .int tk, .int ob, .int co, .ref a3, .int rc, .ref a4])), (a1, .inl (c1, 300, .inr (.inl ce))), (a2, .inl (c2, 16, .inl rg)), (a3, .inl (c3, 300, .inl re)), (a4, .inl (c4, 300, .inl np))] sz)) (va_Qv (fun u : (Nat → Int64) × (Nat → Int32) × Int32 × Int32 × Int32 × (Nat → Int32) × Int32 × (Nat → Int32) => hp_C (hp_col M) u.1 u.2.1 u.2.2.1 u.2.2.2.1 u.2.2.2.2.1) (fun u t => hw_B (dC, dI) vwCl [(c1, .long), (c2, .int), (c3, .int), (c4, .int)] (va_A [(h0, .inr (0, [.ref a1, .ref a2, .int tk, .int ob, .int co, .ref a3, .int rc, .ref a4])), (a1, .inl (c1, 300, .inr (.inl ce))), (a2, .inl (c2, 16, .inl rg)), (a3, .inl (c3, 300, .inl re)), (a4, .inl (c4, 300, .inl np))] sz) ((fun u : (Nat → Int64) × (Nat → Int32) × Int32 × Int32 × Int32 × (Nat → Int32) × Int32 × (Nat → Int32) => [(h0, .inr (0, [.ref a1, .ref a2, .int u.2.2.1, .int u.2.2.2.1, .int u.2.2.2.2.1, .ref a3, .int u.2.2.2.2.2.2.1, .ref a4])), (a1, .inl (c1, 300, .inr (.inl u.1))), (a2, .inl (c2, 16, .inl u.2.1)), (a3, .inl (c3, 300, .inl u.2.2.2.2.2.1)), (a4, .inl (c4, 300, .inl u.2.2.2.2.2.2.2))]) u) t) (va_A [(h0, .inr (0, [.ref a1, .ref a2, .int tk, .int ob, .int co, .ref a3, .int rc, .ref a4])), (a1, .inl (c1, 300, .inr (.inl ce))), (a2, .inl (c2, 16, .inl rg)), (a3, .inl (c3, 300, .inl re)), (a4, .inl (c4, 300, .inl np))] sz)) 0 0 (va_A [(h0, .inr (0, [.ref a1, .ref a2, .int tk, .int ob, .int co, .ref a3, .int rc, .ref a4])), (a1, .inl (c1, 300, .inr (.inl ce))), (a2, .inl (c2, 16, .inl rg)), (a3, .inl (c3, 300, .inl re)), (a4, .inl (c4, 300, .inl np))] sz) := by
  refine Met.ofW (cc := cX0_pressTogether) (maxL := 2) (ret := none) (by decide) rfl ?_
  intro p e s m args below meth c s₁ B hml hv
  obtain ⟨hargs, hsz, hP, hK, hD0⟩ := hv
  have hx := B.exec
  have hb := B.bytes
  have hr := B.returns
  have hts : ∀ w ∈ wb, w.before _ s = true := fun w h => atoms_spec (ws := wsX0_pressTogether) B.pre w (List.mem_cons_of_mem _ h)
  have hown : s.vm.findClass RX0 = some m.cls := findClass_of_methodNamed B.named
  have hlocks := B.notSynchronized
  subst hsz
  have hD := hD0.self (sz := s.heap.size)
  generalize hAe : va_A [(h0, .inr (0, [.ref a1, .ref a2, .int tk, .int ob, .int co, .ref a3, .int rc, .ref a4])), (a1, .inl (c1, 300, .inr (.inl ce))), (a2, .inl (c2, 16, .inl rg)), (a3, .inl (c3, 300, .inl re)), (a4, .inl (c4, 300, .inl np))] s.heap.size = A at hD ⊢
  have hA : ∀ q : Nat, s.heap.size ≤ q → A q := fun q h => by rw [← hAe]; exact Or.inr h
  have hS : va_S A s.heap s.heap [] := va_S.rf
  generalize hQ9 : MQ below (va_Qv (fun u : (Nat → Int64) × (Nat → Int32) × Int32 × Int32 × Int32 × (Nat → Int32) × Int32 × (Nat → Int32) => hp_C (hp_col M) u.1 u.2.1 u.2.2.1 u.2.2.2.1 u.2.2.2.2.1) (fun u t => hw_B (dC, dI) vwCl [(c1, .long), (c2, .int), (c3, .int), (c4, .int)] A ((fun u : (Nat → Int64) × (Nat → Int32) × Int32 × Int32 × Int32 × (Nat → Int32) × Int32 × (Nat → Int32) => [(h0, .inr (0, [.ref a1, .ref a2, .int u.2.2.1, .int u.2.2.2.1, .int u.2.2.2.2.1, .ref a3, .int u.2.2.2.2.2.2.1, .ref a4])), (a1, .inl (c1, 300, .inr (.inl u.1))), (a2, .inl (c2, 16, .inl u.2.1)), (a3, .inl (c3, 300, .inl u.2.2.2.2.2.1)), (a4, .inl (c4, 300, .inl u.2.2.2.2.2.2.2))]) u) t) A) args s 0 0 A = Q9
  have hl := lv_entry ([.ref h0]) (n := 2) (Nat.le_of_ble_eq_true rfl)
  rw [show entryFrame m args 2 = _ from (congrArg (fun z => entryFrame m z 2) hargs).trans (lg_entry_eq m [.ref h0] 2)]
  generalize (lg_sl ([.ref h0]) ++ List.replicate (2 - (lg_sl ([.ref h0])).length) Slot.unset).toArray = ls at hl ⊢
  have hl : lv_has ls 2 [(0, .ref h0)] := hl
  obtain ⟨H, hH⟩ : ∃ H, H = s.heap := ⟨_, rfl⟩
  rw [← hH] at hP
  have hS : va_S A s.heap H [] := by rw [hH]; exact hS
  rw [← hH]
  generalize ([] : List Loc) = locs at hS ⊢
  refine lv_aload_n hx hb dX0_pressTogether_0 rfl (lv_at hl 0 rfl) ?_
  refine lv_dup hx hb dX0_pressTogether_1 rfl ?_
  refine va_get (D := (dC, dI)) (ci := 0) (v := .int co) (C := RX0) (T := TX0) (N := 8) hx hb hts inX0 hown hK hP 0 rfl rfl 4 (by decide) (hts _ bw_fl_X0_24) (fun _ h9 => h9) rfl dX0_pressTogether_2 ?_
  refine lv_iconst (v := 1) hx hb dX0_pressTogether_5 (by decide) ?_
  refine lv_iadd hx hb dX0_pressTogether_6 ?_
  refine va_put (D := (dC, dI)) (ci := 0) (v := .int (co + 1)) (ty := .int) (C := RX0) (T := TX0) (N := 8) hx hb hts inX0 tyX0 tyX0_ok nmX0 hown hK hP hD hS 0 rfl rfl 4 (by decide) (hts _ bw_fl_X0_24) (fun _ h9 => h9) rfl (by decide +kernel) rfl rfl (Nat.le_of_ble_eq_true rfl) dX0_pressTogether_7 (fun H locs hP hD hS => ?_)
  have hP : va_P (dC, dI) vwCl [(h0, .inr (0, [.ref a1, .ref a2, .int tk, .int ob, .int (co + 1), .ref a3, .int rc, .ref a4])), (a1, .inl (c1, 300, .inr (.inl ce))), (a2, .inl (c2, 16, .inl rg)), (a3, .inl (c3, 300, .inl re)), (a4, .inl (c4, 300, .inl np))] H := hP
  have hD : va_D A [(h0, .inr (0, [.ref a1, .ref a2, .int tk, .int ob, .int (co + 1), .ref a3, .int rc, .ref a4])), (a1, .inl (c1, 300, .inr (.inl ce))), (a2, .inl (c2, 16, .inl rg)), (a3, .inl (c3, 300, .inl re)), (a4, .inl (c4, 300, .inl np))] := hD
  refine lv_aload_n hx hb dX0_pressTogether_10 rfl (lv_at hl 0 rfl) ?_
  refine hw_callv (va_runV (As := []) (rest := []) ⟨hx, hb, hml, hown, hts⟩ (c_X0_findReached l dC dI h0 a1 a2 a3 a4 c1 c2 c3 c4 ce rg tk ob (co + 1) re rc np _ M hW co hC) (cwV 0 hts gw_X0_99 rfl rfl rfl ⟨rfl, by decide, by decide, by decide +kernel⟩ ⟨Nat.le_of_ble_eq_true rfl, Nat.le_of_ble_eq_true rfl⟩) ⟨hw_blind, va_recv (q0 := 0) (ci := 0) (q := (RX0, TX0, 8)) hK hP rfl rfl, hw_pay hP hK hD⟩ rfl rfl hl.1 rfl (lv_room (Nat.le_of_ble_eq_true rfl)) dX0_pressTogether_11 ⟨by decide, by decide⟩) hD hS hA (fun u9 H locs hw hP hD hS => ?_)
  obtain ⟨re, rc, np⟩ := u9
  have hP : va_P (dC, dI) vwCl [(h0, .inr (0, [.ref a1, .ref a2, .int tk, .int ob, .int (co + 1), .ref a3, .int rc, .ref a4])), (a1, .inl (c1, 300, .inr (.inl ce))), (a2, .inl (c2, 16, .inl rg)), (a3, .inl (c3, 300, .inl re)), (a4, .inl (c4, 300, .inl np))] H := hP
  have hD : va_D A [(h0, .inr (0, [.ref a1, .ref a2, .int tk, .int ob, .int (co + 1), .ref a3, .int rc, .ref a4])), (a1, .inl (c1, 300, .inr (.inl ce))), (a2, .inl (c2, 16, .inl rg)), (a3, .inl (c3, 300, .inl re)), (a4, .inl (c4, 300, .inl np))] := hD
  obtain ⟨R, hI, hb9⟩ := hw
  refine lv_aload_n hx hb dX0_pressTogether_14 rfl (lv_at hl 0 rfl) ?_
  refine hw_calli (va_runV (As := []) (rest := []) ⟨hx, hb, hml, hown, hts⟩ (c_X0_planNewPlaces l dC dI h0 a1 a2 a3 a4 c1 c2 c3 c4 ce rg tk ob (co + 1) re rc np _ M hW hC.2.1 (fun o ho => (hC.2.2.2.2 o ho).1) (hp_N_0 hI hb9)) (cwV 0 hts gw_X0_102 rfl rfl rfl ⟨rfl, by decide, by decide, by decide +kernel⟩ ⟨Nat.le_of_ble_eq_true rfl, Nat.le_of_ble_eq_true rfl⟩) ⟨hw_blind, va_recv (q0 := 0) (ci := 0) (q := (RX0, TX0, 8)) hK hP rfl rfl, hw_pay hP hK hD⟩ rfl rfl hl.1 rfl (lv_room (Nat.le_of_ble_eq_true rfl)) dX0_pressTogether_15 ⟨by decide, by decide⟩) hD hS hA (fun r9 u9 H locs hw hP hD hS => ?_)
  obtain ⟨np1, hnp1⟩ : ∃ z, z = u9 := ⟨_, rfl⟩
  rw [← hnp1] at hP hD hw
  have hP : va_P (dC, dI) vwCl [(h0, .inr (0, [.ref a1, .ref a2, .int tk, .int ob, .int (co + 1), .ref a3, .int rc, .ref a4])), (a1, .inl (c1, 300, .inr (.inl ce))), (a2, .inl (c2, 16, .inl rg)), (a3, .inl (c3, 300, .inl re)), (a4, .inl (c4, 300, .inl np1))] H := hP
  have hD : va_D A [(h0, .inr (0, [.ref a1, .ref a2, .int tk, .int ob, .int (co + 1), .ref a3, .int rc, .ref a4])), (a1, .inl (c1, 300, .inr (.inl ce))), (a2, .inl (c2, 16, .inl rg)), (a3, .inl (c3, 300, .inl re)), (a4, .inl (c4, 300, .inl np1))] := hD
  obtain ⟨hr9, hN⟩ := hw
  refine hw_topi (y := nI (hp_t (hp_z M) (hp_L2 M))) (hr9) ?_
  refine lv_istore_n hx hb dX0_pressTogether_18 rfl hl (by decide) rfl (fun ls hl => ?_)
  have hl : lv_has ls 2 [(1, .int (nI (hp_t (hp_z M) (hp_L2 M)))), (0, .ref h0)] := hl
  refine lv_aload_n hx hb dX0_pressTogether_19 rfl (lv_at hl 1 rfl) ?_
  refine hw_callv (va_runV (As := []) (rest := []) ⟨hx, hb, hml, hown, hts⟩ (c_X0_redirectRegisters l dC dI h0 a1 a2 a3 a4 c1 c2 c3 c4 ce rg tk ob (co + 1) re rc np1 _ M hW hC.2.2.2.1 hN) (cwV 0 hts gw_X0_106 rfl rfl rfl ⟨rfl, by decide, by decide, by decide +kernel⟩ ⟨Nat.le_of_ble_eq_true rfl, Nat.le_of_ble_eq_true rfl⟩) ⟨hw_blind, va_recv (q0 := 0) (ci := 0) (q := (RX0, TX0, 8)) hK hP rfl rfl, hw_pay hP hK hD⟩ rfl rfl hl.1 rfl (lv_room (Nat.le_of_ble_eq_true rfl)) dX0_pressTogether_20 ⟨by decide, by decide⟩) hD hS hA (fun u9 H locs hw hP hD hS => ?_)
  obtain ⟨rg1, hrg1⟩ : ∃ z, z = u9 := ⟨_, rfl⟩
  rw [← hrg1] at hP hD hw
  have hP : va_P (dC, dI) vwCl [(h0, .inr (0, [.ref a1, .ref a2, .int tk, .int ob, .int (co + 1), .ref a3, .int rc, .ref a4])), (a1, .inl (c1, 300, .inr (.inl ce))), (a2, .inl (c2, 16, .inl rg1)), (a3, .inl (c3, 300, .inl re)), (a4, .inl (c4, 300, .inl np1))] H := hP
  have hD : va_D A [(h0, .inr (0, [.ref a1, .ref a2, .int tk, .int ob, .int (co + 1), .ref a3, .int rc, .ref a4])), (a1, .inl (c1, 300, .inr (.inl ce))), (a2, .inl (c2, 16, .inl rg1)), (a3, .inl (c3, 300, .inl re)), (a4, .inl (c4, 300, .inl np1))] := hD
  have hrg := hw
  refine lv_aload_n hx hb dX0_pressTogether_23 rfl (lv_at hl 1 rfl) ?_
  refine hw_callv (va_runV (As := []) (rest := []) ⟨hx, hb, hml, hown, hts⟩ (c_X0_redirectContents l dC dI h0 a1 a2 a3 a4 c1 c2 c3 c4 ce rg1 tk ob (co + 1) re rc np1 _ M hW R hI.2.1 hb9 hI.1 hI.2.2.2.1 hN (hp_X_0 hC)) (cwV 0 hts gw_X0_109 rfl rfl rfl ⟨rfl, by decide, by decide, by decide +kernel⟩ ⟨Nat.le_of_ble_eq_true rfl, Nat.le_of_ble_eq_true rfl⟩) ⟨hw_blind, va_recv (q0 := 0) (ci := 0) (q := (RX0, TX0, 8)) hK hP rfl rfl, hw_pay hP hK hD⟩ rfl rfl hl.1 rfl (lv_room (Nat.le_of_ble_eq_true rfl)) dX0_pressTogether_24 ⟨by decide, by decide⟩) hD hS hA (fun u9 H locs hw hP hD hS => ?_)
  obtain ⟨ce1, hce1⟩ : ∃ z, z = u9 := ⟨_, rfl⟩
  rw [← hce1] at hP hD hw
  have hP : va_P (dC, dI) vwCl [(h0, .inr (0, [.ref a1, .ref a2, .int tk, .int ob, .int (co + 1), .ref a3, .int rc, .ref a4])), (a1, .inl (c1, 300, .inr (.inl ce1))), (a2, .inl (c2, 16, .inl rg1)), (a3, .inl (c3, 300, .inl re)), (a4, .inl (c4, 300, .inl np1))] H := hP
  have hD : va_D A [(h0, .inr (0, [.ref a1, .ref a2, .int tk, .int ob, .int (co + 1), .ref a3, .int rc, .ref a4])), (a1, .inl (c1, 300, .inr (.inl ce1))), (a2, .inl (c2, 16, .inl rg1)), (a3, .inl (c3, 300, .inl re)), (a4, .inl (c4, 300, .inl np1))] := hD
  have hX := hw
  refine lv_aload_n hx hb dX0_pressTogether_27 rfl (lv_at hl 1 rfl) ?_
  refine hw_callv (va_runV (As := []) (rest := []) ⟨hx, hb, hml, hown, hts⟩ (c_X0_moveDown l dC dI h0 a1 a2 a3 a4 c1 c2 c3 c4 ce1 rg1 tk ob (co + 1) re rc np1 _ M hW hC.2.1 hN (hp_V_0 hX hb9)) (cwV 0 hts gw_X0_112 rfl rfl rfl ⟨rfl, by decide, by decide, by decide +kernel⟩ ⟨Nat.le_of_ble_eq_true rfl, Nat.le_of_ble_eq_true rfl⟩) ⟨hw_blind, va_recv (q0 := 0) (ci := 0) (q := (RX0, TX0, 8)) hK hP rfl rfl, hw_pay hP hK hD⟩ rfl rfl hl.1 rfl (lv_room (Nat.le_of_ble_eq_true rfl)) dX0_pressTogether_28 ⟨by decide, by decide⟩) hD hS hA (fun u9 H locs hw hP hD hS => ?_)
  obtain ⟨ce1, hce1⟩ : ∃ z, z = u9 := ⟨_, rfl⟩
  rw [← hce1] at hP hD hw
  have hP : va_P (dC, dI) vwCl [(h0, .inr (0, [.ref a1, .ref a2, .int tk, .int ob, .int (co + 1), .ref a3, .int rc, .ref a4])), (a1, .inl (c1, 300, .inr (.inl ce1))), (a2, .inl (c2, 16, .inl rg1)), (a3, .inl (c3, 300, .inl re)), (a4, .inl (c4, 300, .inl np1))] H := hP
  have hD : va_D A [(h0, .inr (0, [.ref a1, .ref a2, .int tk, .int ob, .int (co + 1), .ref a3, .int rc, .ref a4])), (a1, .inl (c1, 300, .inr (.inl ce1))), (a2, .inl (c2, 16, .inl rg1)), (a3, .inl (c3, 300, .inl re)), (a4, .inl (c4, 300, .inl np1))] := hD
  refine lv_aload_n hx hb dX0_pressTogether_31 rfl (lv_at hl 1 rfl) ?_
  refine lv_iload_n hx hb dX0_pressTogether_32 rfl (lv_at hl 0 rfl) ?_
  refine va_put (D := (dC, dI)) (ci := 0) (v := .int (nI (hp_t (hp_z M) (hp_L2 M)))) (ty := .int) (C := RX0) (T := TX0) (N := 8) hx hb hts inX0 tyX0 tyX0_ok nmX0 hown hK hP hD hS 0 rfl rfl 2 (by decide) (hts _ bw_fl_X0_17) (fun _ h9 => h9) rfl (by decide +kernel) rfl rfl (Nat.le_of_ble_eq_true rfl) dX0_pressTogether_33 (fun H locs hP hD hS => ?_)
  have hP : va_P (dC, dI) vwCl [(h0, .inr (0, [.ref a1, .ref a2, .int (nI (hp_t (hp_z M) (hp_L2 M))), .int ob, .int (co + 1), .ref a3, .int rc, .ref a4])), (a1, .inl (c1, 300, .inr (.inl ce1))), (a2, .inl (c2, 16, .inl rg1)), (a3, .inl (c3, 300, .inl re)), (a4, .inl (c4, 300, .inl np1))] H := hP
  have hD : va_D A [(h0, .inr (0, [.ref a1, .ref a2, .int (nI (hp_t (hp_z M) (hp_L2 M))), .int ob, .int (co + 1), .ref a3, .int rc, .ref a4])), (a1, .inl (c1, 300, .inr (.inl ce1))), (a2, .inl (c2, 16, .inl rg1)), (a3, .inl (c3, 300, .inl re)), (a4, .inl (c4, 300, .inl np1))] := hD
  refine lv_aload_n hx hb dX0_pressTogether_36 rfl (lv_at hl 1 rfl) ?_
  refine lv_aload_n hx hb dX0_pressTogether_37 rfl (lv_at hl 1 rfl) ?_
  refine va_get (D := (dC, dI)) (ci := 0) (v := .int rc) (C := RX0) (T := TX0) (N := 8) hx hb hts inX0 hown hK hP 0 rfl rfl 6 (by decide) (hts _ bw_fl_X0_30) (fun _ h9 => h9) rfl dX0_pressTogether_38 ?_
  refine va_put (D := (dC, dI)) (ci := 0) (v := .int rc) (ty := .int) (C := RX0) (T := TX0) (N := 8) hx hb hts inX0 tyX0 tyX0_ok nmX0 hown hK hP hD hS 0 rfl rfl 3 (by decide) (hts _ bw_fl_X0_21) (fun _ h9 => h9) rfl (by decide +kernel) rfl rfl (Nat.le_of_ble_eq_true rfl) dX0_pressTogether_41 (fun H locs hP hD hS => ?_)
  have hP : va_P (dC, dI) vwCl [(h0, .inr (0, [.ref a1, .ref a2, .int (nI (hp_t (hp_z M) (hp_L2 M))), .int rc, .int (co + 1), .ref a3, .int rc, .ref a4])), (a1, .inl (c1, 300, .inr (.inl ce1))), (a2, .inl (c2, 16, .inl rg1)), (a3, .inl (c3, 300, .inl re)), (a4, .inl (c4, 300, .inl np1))] H := hP
  have hD : va_D A [(h0, .inr (0, [.ref a1, .ref a2, .int (nI (hp_t (hp_z M) (hp_L2 M))), .int rc, .int (co + 1), .ref a3, .int rc, .ref a4])), (a1, .inl (c1, 300, .inr (.inl ce1))), (a2, .inl (c2, 16, .inl rg1)), (a3, .inl (c3, 300, .inl re)), (a4, .inl (c4, 300, .inl np1))] := hD
  subst hQ9
  exact W.vret hx hb hr (fun t ht hWm => ⟨⟨(ce1, rg1, (nI (hp_t (hp_z M) (hp_L2 M))), rc, (co + 1), re, rc, np1), rfl, by have h9 := hp_C_col hW hI.2.1 hb9 hw hrg; rw [← hI.1, ← hC.2.2.1] at h9; exact h9, by rw [ht]; exact hP, va_K.moved hWm.alike hK, hD⟩, hS.F ht⟩) hS.2.2 dX0_pressTogether_44
