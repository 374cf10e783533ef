set_option maxHeartbeats 4000000 in
set_option maxRecDepth 100000 in
/-- takeCells(kind, n), where there is room -/
theorem c_X0_takeCells (l : Launch) (dC : Nat → ClassId) (dI : Nat → Nat → Nat) (h0 a1 a2 a3 a4 : Nat) (c1 c2 c3 c4 : ClassId) (ce : Nat → Int64) (rg : Nat → Int32) (tk ob co : Int32) (re : Nat → Int32) (rc : Int32) (np : Nat → Int32) (sz : Nat) (M : hp_S) (hW : hp_W M) (hC : hp_C M ce rg tk ob co) (k n : Nat) (hk4 : k < 4) (hn : n ≤ 40) (hfit : hp_tk (hp_rm M n) + (1 + n) ≤ 300) : Met l yX0_takeCells wsX0_takeCells ({ frames := 5, cells := 0, slots := 0, locals := 111 }) (va_Pc [.ref h0, .int (nI k), .int (nI n)] (hw_pre (dC, dI) vwCl [(c1, .long), (c2, .int), (c3, .int), (c4, .int)] [(h0, .inr (0, [.ref a1, .ref a2, .int tk, .int ob, .int co, .ref a3, .int rc, .ref a4])), (a1, .inl (c1, 300, .inr (.inl ce))), (a2, .inl (c2, 16, .inl rg)), (a3, .inl (c3, 300, .inl re)), (a4, .inl (c4, 300, .inl np))] sz)) (va_Qi (fun (r : Int32) (u : (Nat → Int64) × (Nat → Int32) × Int32 × Int32 × Int32 × (Nat → Int32) × Int32 × (Nat → Int32)) => r = nI (hp_tk (hp_rm M n)) ∧ ∃ ce1 tk1 ob1, hp_C (hp_rm M n) ce1 u.2.1 tk1 ob1 u.2.2.2.2.1 ∧ u.1 = vp_updL ce1 (hp_tk (hp_rm M n)) (lN (4 * n + k)) ∧ u.2.2.1 = nI (hp_tk (hp_rm M n) + (1 + n)) ∧ u.2.2.2.1 = nI ((hp_L (hp_rm M n)).length + 1)) (fun u t => hw_B (dC, dI) vwCl [(c1, .long), (c2, .int), (c3, .int), (c4, .int)] (va_A [(h0, .inr (0, [.ref a1, .ref a2, .int tk, .int ob, .int co, .ref a3, .int rc, .ref a4])), (a1, .inl (c1, 300, .inr (.inl ce))), (a2, .inl (c2, 16, .inl rg)), (a3, .inl (c3, 300, .inl re)), (a4, .inl (c4, 300, .inl np))] sz) ((fun u : (Nat → Int64) × (Nat → Int32) × Int32 × Int32 × Int32 × (Nat → Int32) × Int32 × (Nat → Int32) => [(h0, .inr (0, [.ref a1, .ref a2, .int u.2.2.1, .int u.2.2.2.1, .int u.2.2.2.2.1, .ref a3, .int u.2.2.2.2.2.2.1, .ref a4])), (a1, .inl (c1, 300, .inr (.inl u.1))), (a2, .inl (c2, 16, .inl u.2.1)), (a3, .inl (c3, 300, .inl u.2.2.2.2.2.1)), (a4, .inl (c4, 300, .inl u.2.2.2.2.2.2.2))]) u) t) (va_A [(h0, .inr (0, [.ref a1, .ref a2, .int tk, .int ob, .int co, .ref a3, .int rc, .ref a4])), (a1, .inl (c1, 300, .inr (.inl ce))), (a2, .inl (c2, 16, .inl rg)), (a3, .inl (c3, 300, .inl re)), (a4, .inl (c4, 300, .inl np))] sz)) 0 0 (va_A [(h0, .inr (0, [.ref a1, .ref a2, .int tk, .int ob, .int co, .ref a3, .int rc, .ref a4])), (a1, .inl (c1, 300, .inr (.inl ce))), (a2, .inl (c2, 16, .inl rg)), (a3, .inl (c3, 300, .inl re)), (a4, .inl (c4, 300, .inl np))] sz) := by
  refine Met.ofW (cc := cX0_takeCells) (maxL := 4) (ret := some .int) (by decide) rfl ?_
  intro p e s m args below meth c s₁ B hml hv
  obtain ⟨hargs, hsz, hP, hK, hD0⟩ := hv
  have hx := B.exec
  have hb := B.bytes
  have hr := B.returns
  have hts : ∀ w ∈ wb, w.before _ s = true := fun w h => atoms_spec (ws := wsX0_takeCells) B.pre w (List.mem_cons_of_mem _ h)
  have hown : s.vm.findClass RX0 = some m.cls := findClass_of_methodNamed B.named
  have hlocks := B.notSynchronized
  subst hsz
  have hD := hD0.self (sz := s.heap.size)
  generalize hAe : va_A [(h0, .inr (0, [.ref a1, .ref a2, .int tk, .int ob, .int co, .ref a3, .int rc, .ref a4])), (a1, .inl (c1, 300, .inr (.inl ce))), (a2, .inl (c2, 16, .inl rg)), (a3, .inl (c3, 300, .inl re)), (a4, .inl (c4, 300, .inl np))] s.heap.size = A at hD ⊢
  have hA : ∀ q : Nat, s.heap.size ≤ q → A q := fun q h => by rw [← hAe]; exact Or.inr h
  have hS : va_S A s.heap s.heap [] := va_S.rf
  generalize hQ9 : MQ below (va_Qi (fun (r : Int32) (u : (Nat → Int64) × (Nat → Int32) × Int32 × Int32 × Int32 × (Nat → Int32) × Int32 × (Nat → Int32)) => r = nI (hp_tk (hp_rm M n)) ∧ ∃ ce1 tk1 ob1, hp_C (hp_rm M n) ce1 u.2.1 tk1 ob1 u.2.2.2.2.1 ∧ u.1 = vp_updL ce1 (hp_tk (hp_rm M n)) (lN (4 * n + k)) ∧ u.2.2.1 = nI (hp_tk (hp_rm M n) + (1 + n)) ∧ u.2.2.2.1 = nI ((hp_L (hp_rm M n)).length + 1)) (fun u t => hw_B (dC, dI) vwCl [(c1, .long), (c2, .int), (c3, .int), (c4, .int)] A ((fun u : (Nat → Int64) × (Nat → Int32) × Int32 × Int32 × Int32 × (Nat → Int32) × Int32 × (Nat → Int32) => [(h0, .inr (0, [.ref a1, .ref a2, .int u.2.2.1, .int u.2.2.2.1, .int u.2.2.2.2.1, .ref a3, .int u.2.2.2.2.2.2.1, .ref a4])), (a1, .inl (c1, 300, .inr (.inl u.1))), (a2, .inl (c2, 16, .inl u.2.1)), (a3, .inl (c3, 300, .inl u.2.2.2.2.2.1)), (a4, .inl (c4, 300, .inl u.2.2.2.2.2.2.2))]) u) t) A) args s 0 0 A = Q9
  have hl := lv_entry ([.ref h0, .int (nI k), .int (nI n)]) (n := 4) (Nat.le_of_ble_eq_true rfl)
  rw [show entryFrame m args 4 = _ from (congrArg (fun z => entryFrame m z 4) hargs).trans (lg_entry_eq m [.ref h0, .int (nI k), .int (nI n)] 4)]
  generalize (lg_sl ([.ref h0, .int (nI k), .int (nI n)]) ++ List.replicate (4 - (lg_sl ([.ref h0, .int (nI k), .int (nI n)])).length) Slot.unset).toArray = ls at hl ⊢
  have hl : lv_has ls 4 [(0, .ref h0), (1, .int (nI k)), (2, .int (nI n))] := hl
  obtain ⟨H, hH⟩ : ∃ H, H = s.heap := ⟨_, rfl⟩
  rw [← hH] at hP
  have hS : va_S A s.heap H [] := by rw [hH]; exact hS
  rw [← hH]
  generalize ([] : List Loc) = locs at hS ⊢
  have hW1 := hp_rm_W hW n
  have hT := hW.2.2.2.2.2
  have hT1 := hW1.2.2.2.2.2
  have tail : ∀ (ce : Nat → Int64) (rg : Nat → Int32) (tk : Int32) (ob : Int32) (co : Int32) (re : Nat → Int32) (rc : Int32) (np : Nat → Int32) (H : Heap) (locs : List Loc) (ls : Array Slot), (hp_C (hp_rm M n) ce rg tk ob co) → va_P (dC, dI) vwCl [(h0, .inr (0, [.ref a1, .ref a2, .int tk, .int ob, .int co, .ref a3, .int rc, .ref a4])), (a1, .inl (c1, 300, .inr (.inl ce))), (a2, .inl (c2, 16, .inl rg)), (a3, .inl (c3, 300, .inl re)), (a4, .inl (c4, 300, .inl np))] H → va_D A [(h0, .inr (0, [.ref a1, .ref a2, .int tk, .int ob, .int co, .ref a3, .int rc, .ref a4])), (a1, .inl (c1, 300, .inr (.inl ce))), (a2, .inl (c2, 16, .inl rg)), (a3, .inl (c3, 300, .inl re)), (a4, .inl (c4, 300, .inl np))] → va_S A s.heap H locs → lv_has ls 4 [(0, .ref h0), (1, .int (nI k)), (2, .int (nI n))] → W p l e (headSpec wsX0_takeCells ({ frames := 5, cells := 0, slots := 0, locals := 111 })).room s m args below meth c H locs 0 0 Q9 (F0 m 12 ls []) := by
    intro ce rg tk ob co re rc np H locs ls hI hP hD hS hl
    refine lv_aload_n hx hb dX0_takeCells_12 rfl (lv_at hl 0 rfl) ?_
    refine lv_iload_n hx hb dX0_takeCells_13 rfl (lv_at hl 2 rfl) ?_
    refine W.callR (W.runV (As := [.int (nI n)]) (rest := []) ⟨hx, hb, hml, hown, hts⟩ (c_X0_hasRoom l dC dI h0 a1 a2 a3 a4 c1 c2 c3 c4 ce rg tk ob co re rc np _ (nI n)) (cwV 1 hts gw_X0_90 rfl rfl rfl ⟨rfl, by decide, by decide, by decide +kernel⟩ ⟨Nat.le_of_ble_eq_true rfl, Nat.le_of_ble_eq_true rfl⟩) ⟨hw_blind, va_recv (q0 := 0) (ci := 0) (q := (RX0, TX0, 8)) hK hP rfl rfl, hw_pay hP hK hD⟩ rfl rfl hl.1 rfl (lv_room (Nat.le_of_ble_eq_true rfl)) dX0_takeCells_14 ⟨by decide, by decide⟩) ?_
    refine W.eq (g2 := F0 m 17 ls [.int (if tk + 1 + nI n ≤ 300 then 1 else 0)]) rfl ?_
    refine hw_topi (y := if hp_tk (hp_rm M n) + (1 + n) ≤ 300 then 1 else 0) (by rw [hI.1]; exact hp_ri hT1 hn) ?_
    refine lv_if_ne hx hb dX0_takeCells_17 (tgt := 30) (by decide) (fun hc => ?_) (fun hc => ?_)
    · skip
      refine lv_aload_n hx hb dX0_takeCells_30 rfl (lv_at hl 0 rfl) ?_
      refine va_get (D := (dC, dI)) (ci := 0) (v := .int tk) (C := RX0) (T := TX0) (N := 8) hx hb hts inX0 hown hK hP 0 rfl rfl 2 (by decide) (hts _ bw_fl_X0_17) (fun _ h9 => h9) rfl dX0_takeCells_31 ?_
      refine lv_istore_n hx hb dX0_takeCells_34 rfl hl (by decide) rfl (fun ls hl => ?_)
      have hl : lv_has ls 4 [(3, .int tk), (0, .ref h0), (1, .int (nI k)), (2, .int (nI n))] := hl
      refine lv_aload_n hx hb dX0_takeCells_35 rfl (lv_at hl 1 rfl) ?_
      refine va_get (D := (dC, dI)) (ci := 0) (v := .ref a1) (C := RX0) (T := TX0) (N := 8) hx hb hts inX0 hown hK hP 0 rfl rfl 0 (by decide) (hts _ bw_fl_X0_9) (fun _ h9 => h9) rfl dX0_takeCells_36 ?_
      refine lv_iload_n hx hb dX0_takeCells_39 rfl (lv_at hl 0 rfl) ?_
      refine lv_iload_n hx hb dX0_takeCells_40 rfl (lv_at hl 3 rfl) ?_
      refine lv_iconst (v := 2) hx hb dX0_takeCells_41 (by decide) ?_
      refine lv_ishl hx hb dX0_takeCells_42 ?_
      refine lv_iload_n hx hb dX0_takeCells_43 rfl (lv_at hl 2 rfl) ?_
      refine lv_ior hx hb dX0_takeCells_44 ?_
      refine lv_i2l hx hb dX0_takeCells_45 rfl ?_
      refine hw_topl (y := lN (4 * n + k)) (hp_hd n (by omega) k hk4) ?_
      refine hw_last (j := hp_tk (hp_rm M n)) hx hb hK hP hD hS 1 0 rfl rfl (hI.1) (by omega) (by decide) dX0_takeCells_46 (fun H locs hP hD hS => ?_)
      have hP : va_P (dC, dI) vwCl [(h0, .inr (0, [.ref a1, .ref a2, .int tk, .int ob, .int co, .ref a3, .int rc, .ref a4])), (a1, .inl (c1, 300, .inr (.inl (vp_updL ce (hp_tk (hp_rm M n)) (lN (4 * n + k)))))), (a2, .inl (c2, 16, .inl rg)), (a3, .inl (c3, 300, .inl re)), (a4, .inl (c4, 300, .inl np))] H := hP
      have hD : va_D A [(h0, .inr (0, [.ref a1, .ref a2, .int tk, .int ob, .int co, .ref a3, .int rc, .ref a4])), (a1, .inl (c1, 300, .inr (.inl (vp_updL ce (hp_tk (hp_rm M n)) (lN (4 * n + k)))))), (a2, .inl (c2, 16, .inl rg)), (a3, .inl (c3, 300, .inl re)), (a4, .inl (c4, 300, .inl np))] := hD
      refine lv_aload_n hx hb dX0_takeCells_47 rfl (lv_at hl 1 rfl) ?_
      refine lv_dup hx hb dX0_takeCells_48 rfl ?_
      refine va_get (D := (dC, dI)) (ci := 0) (v := .int tk) (C := RX0) (T := TX0) (N := 8) hx hb hts inX0 hown hK hP 0 rfl rfl 2 (by decide) (hts _ bw_fl_X0_17) (fun _ h9 => h9) rfl dX0_takeCells_49 ?_
      refine lv_iconst (v := 1) hx hb dX0_takeCells_52 (by decide) ?_
      refine lv_iload_n hx hb dX0_takeCells_53 rfl (lv_at hl 3 rfl) ?_
      refine lv_iadd hx hb dX0_takeCells_54 ?_
      refine lv_iadd hx hb dX0_takeCells_55 ?_
      refine hw_topi (y := nI (hp_tk (hp_rm M n) + (1 + n))) (by rw [hI.1, hp_1a, nI_add]) ?_
      refine va_put (D := (dC, dI)) (ci := 0) (v := .int (nI (hp_tk (hp_rm M n) + (1 + n)))) (ty := .int) (C := RX0) (T := TX0) (N := 8) hx hb hts inX0 tyX0 tyX0_ok nmX0 hown hK hP hD hS 0 rfl rfl 2 (by decide) (hts _ bw_fl_X0_17) (fun _ h9 => h9) rfl (by decide +kernel) rfl rfl (Nat.le_of_ble_eq_true rfl) dX0_takeCells_56 (fun H locs hP hD hS => ?_)
      have hP : va_P (dC, dI) vwCl [(h0, .inr (0, [.ref a1, .ref a2, .int (nI (hp_tk (hp_rm M n) + (1 + n))), .int ob, .int co, .ref a3, .int rc, .ref a4])), (a1, .inl (c1, 300, .inr (.inl (vp_updL ce (hp_tk (hp_rm M n)) (lN (4 * n + k)))))), (a2, .inl (c2, 16, .inl rg)), (a3, .inl (c3, 300, .inl re)), (a4, .inl (c4, 300, .inl np))] H := hP
      have hD : va_D A [(h0, .inr (0, [.ref a1, .ref a2, .int (nI (hp_tk (hp_rm M n) + (1 + n))), .int ob, .int co, .ref a3, .int rc, .ref a4])), (a1, .inl (c1, 300, .inr (.inl (vp_updL ce (hp_tk (hp_rm M n)) (lN (4 * n + k)))))), (a2, .inl (c2, 16, .inl rg)), (a3, .inl (c3, 300, .inl re)), (a4, .inl (c4, 300, .inl np))] := hD
      refine lv_aload_n hx hb dX0_takeCells_59 rfl (lv_at hl 1 rfl) ?_
      refine lv_dup hx hb dX0_takeCells_60 rfl ?_
      refine va_get (D := (dC, dI)) (ci := 0) (v := .int ob) (C := RX0) (T := TX0) (N := 8) hx hb hts inX0 hown hK hP 0 rfl rfl 3 (by decide) (hts _ bw_fl_X0_21) (fun _ h9 => h9) rfl dX0_takeCells_61 ?_
      refine lv_iconst (v := 1) hx hb dX0_takeCells_64 (by decide) ?_
      refine lv_iadd hx hb dX0_takeCells_65 ?_
      refine hw_topi (y := nI ((hp_L (hp_rm M n)).length + 1)) (by rw [hI.2.1]; exact nI_1 _) ?_
      refine va_put (D := (dC, dI)) (ci := 0) (v := .int (nI ((hp_L (hp_rm M n)).length + 1))) (ty := .int) (C := RX0) (T := TX0) (N := 8) hx hb hts inX0 tyX0 tyX0_ok nmX0 hown hK hP hD hS 0 rfl rfl 3 (by decide) (hts _ bw_fl_X0_21) (fun _ h9 => h9) rfl (by decide +kernel) rfl rfl (Nat.le_of_ble_eq_true rfl) dX0_takeCells_66 (fun H locs hP hD hS => ?_)
      have hP : va_P (dC, dI) vwCl [(h0, .inr (0, [.ref a1, .ref a2, .int (nI (hp_tk (hp_rm M n) + (1 + n))), .int (nI ((hp_L (hp_rm M n)).length + 1)), .int co, .ref a3, .int rc, .ref a4])), (a1, .inl (c1, 300, .inr (.inl (vp_updL ce (hp_tk (hp_rm M n)) (lN (4 * n + k)))))), (a2, .inl (c2, 16, .inl rg)), (a3, .inl (c3, 300, .inl re)), (a4, .inl (c4, 300, .inl np))] H := hP
      have hD : va_D A [(h0, .inr (0, [.ref a1, .ref a2, .int (nI (hp_tk (hp_rm M n) + (1 + n))), .int (nI ((hp_L (hp_rm M n)).length + 1)), .int co, .ref a3, .int rc, .ref a4])), (a1, .inl (c1, 300, .inr (.inl (vp_updL ce (hp_tk (hp_rm M n)) (lN (4 * n + k)))))), (a2, .inl (c2, 16, .inl rg)), (a3, .inl (c3, 300, .inl re)), (a4, .inl (c4, 300, .inl np))] := hD
      refine lv_iload_n hx hb dX0_takeCells_69 rfl (lv_at hl 0 rfl) ?_
      subst hQ9
      exact W.iret (v := tk) hx hb hr (fun t ht hWm => ⟨⟨tk, ((vp_updL ce (hp_tk (hp_rm M n)) (lN (4 * n + k))), rg, (nI (hp_tk (hp_rm M n) + (1 + n))), (nI ((hp_L (hp_rm M n)).length + 1)), co, re, rc, np), rfl, ⟨hI.1, ce, tk, ob, hI, rfl, rfl, rfl⟩, by rw [ht]; exact hP, va_K.moved hWm.alike hK, hD⟩, hS.F ht⟩) hS.2.2 dX0_takeCells_70
    · exact absurd ((hp_rt hfit).symm.trans hc) hp_10
  refine lv_aload_n hx hb dX0_takeCells_0 rfl (lv_at hl 0 rfl) ?_
  refine lv_iload_n hx hb dX0_takeCells_1 rfl (lv_at hl 2 rfl) ?_
  refine W.callR (W.runV (As := [.int (nI n)]) (rest := []) ⟨hx, hb, hml, hown, hts⟩ (c_X0_hasRoom l dC dI h0 a1 a2 a3 a4 c1 c2 c3 c4 ce rg tk ob co re rc np _ (nI n)) (cwV 1 hts gw_X0_90 rfl rfl rfl ⟨rfl, by decide, by decide, by decide +kernel⟩ ⟨Nat.le_of_ble_eq_true rfl, Nat.le_of_ble_eq_true rfl⟩) ⟨hw_blind, va_recv (q0 := 0) (ci := 0) (q := (RX0, TX0, 8)) hK hP rfl rfl, hw_pay hP hK hD⟩ rfl rfl hl.1 rfl (lv_room (Nat.le_of_ble_eq_true rfl)) dX0_takeCells_2 ⟨by decide, by decide⟩) ?_
  refine W.eq (g2 := F0 m 5 ls [.int (if tk + 1 + nI n ≤ 300 then 1 else 0)]) rfl ?_
  refine hw_topi (y := if hp_tk M + (1 + n) ≤ 300 then 1 else 0) (by rw [hC.1]; exact hp_ri hT hn) ?_
  refine lv_if_ne hx hb dX0_takeCells_5 (tgt := 12) (by decide) (fun hc => ?_) (fun hc => ?_)
  · have hf : hp_tk M + (1 + n) ≤ 300 := Classical.byContradiction fun h9 => hc (hp_rf h9)
    exact tail ce rg tk ob co re rc np H locs ls (by rw [hp_rm_t hf]; exact hC) hP hD hS (lv_sub hl [0, 1, 2] rfl)
  · have hf : ¬ hp_tk M + (1 + n) ≤ 300 := fun h9 => hp_10 ((hp_rt h9).symm.trans hc)
    refine lv_aload_n hx hb dX0_takeCells_8 rfl (lv_at hl 0 rfl) ?_
    refine hw_callv (va_runV (As := []) (rest := []) ⟨hx, hb, hml, hown, hts⟩ (c_X0_pressTogether l dC dI h0 a1 a2 a3 a4 c1 c2 c3 c4 ce rg tk ob co re rc np _ M hW hC) (cwV 0 hts gw_X0_73 rfl rfl rfl ⟨rfl, by decide, by decide, by decide +kernel⟩ ⟨Nat.le_of_ble_eq_true rfl, Nat.le_of_ble_eq_true rfl⟩) ⟨hw_blind, va_recv (q0 := 0) (ci := 0) (q := (RX0, TX0, 8)) hK hP rfl rfl, hw_pay hP hK hD⟩ rfl rfl hl.1 rfl (lv_room (Nat.le_of_ble_eq_true rfl)) dX0_takeCells_9 ⟨by decide, by decide⟩) hD hS hA (fun u9 H locs hw hP hD hS => ?_)
    obtain ⟨ce, rg, tk, ob, co, re, rc, np⟩ := u9
    have hP : va_P (dC, dI) vwCl [(h0, .inr (0, [.ref a1, .ref a2, .int tk, .int ob, .int co, .ref a3, .int rc, .ref a4])), (a1, .inl (c1, 300, .inr (.inl ce))), (a2, .inl (c2, 16, .inl rg)), (a3, .inl (c3, 300, .inl re)), (a4, .inl (c4, 300, .inl np))] H := hP
    have hD : va_D A [(h0, .inr (0, [.ref a1, .ref a2, .int tk, .int ob, .int co, .ref a3, .int rc, .ref a4])), (a1, .inl (c1, 300, .inr (.inl ce))), (a2, .inl (c2, 16, .inl rg)), (a3, .inl (c3, 300, .inl re)), (a4, .inl (c4, 300, .inl np))] := hD
    exact tail ce rg tk ob co re rc np H locs ls (by rw [hp_rm_f hf]; exact hw) hP hD hS (lv_sub hl [0, 1, 2] rfl)

set_option maxHeartbeats 4000000 in
set_option maxRecDepth 100000 in
theorem x_X0_takeCells (l : Launch) (dC : Nat → ClassId) (dI : Nat → Nat → Nat) (h0 a1 a2 a3 a4 : Nat) (c1 c2 c3 c4 : ClassId) (ce : Nat → Int64) (rg : Nat → Int32) (tk ob co : Int32) (re : Nat → Int32) (rc : Int32) (np : Nat → Int32) (sz : Nat) (hl9 : l.stackTraces = false) (M : hp_S) (hW : hp_W M) (hC : hp_C M ce rg tk ob co) (k n : Nat) (hk4 : k < 4) (hn : n ≤ 40) (hfull : ¬ hp_tk (hp_rm M n) + (1 + n) ≤ 300) : vx_Met l yX0_takeCells wsX0_takeCells ({ frames := 6, cells := 1, slots := 6, locals := 111 }) (va_Pc [.ref h0, .int (nI k), .int (nI n)] (hx_pre (dC, dI) vwCl [(c1, .long), (c2, .int), (c3, .int), (c4, .int)] [(h0, .inr (0, [.ref a1, .ref a2, .int tk, .int ob, .int co, .ref a3, .int rc, .ref a4])), (a1, .inl (c1, 300, .inr (.inl ce))), (a2, .inl (c2, 16, .inl rg)), (a3, .inl (c3, 300, .inl re)), (a4, .inl (c4, 300, .inl np))] sz)) (fun _ _ _ _ => False) (vx_X (fun _ : (Nat → Int64) × (Nat → Int32) × Int32 × Int32 × Int32 × (Nat → Int32) × Int32 × (Nat → Int32) => True) (fun E u t => (fun (E : String) (u : (Nat → Int64) × (Nat → Int32) × Int32 × Int32 × Int32 × (Nat → Int32) × Int32 × (Nat → Int32)) => E = hz_I ∧ hp_C (hp_rm M n) u.1 u.2.1 u.2.2.1 u.2.2.2.1 u.2.2.2.2.1) E u ∧ hw_B (dC, dI) vwCl [(c1, .long), (c2, .int), (c3, .int), (c4, .int)] (va_A [(h0, .inr (0, [.ref a1, .ref a2, .int tk, .int ob, .int co, .ref a3, .int rc, .ref a4])), (a1, .inl (c1, 300, .inr (.inl ce))), (a2, .inl (c2, 16, .inl rg)), (a3, .inl (c3, 300, .inl re)), (a4, .inl (c4, 300, .inl np))] sz) ((fun u : (Nat → Int64) × (Nat → Int32) × Int32 × Int32 × Int32 × (Nat → Int32) × Int32 × (Nat → Int32) => [(h0, .inr (0, [.ref a1, .ref a2, .int u.2.2.1, .int u.2.2.2.1, .int u.2.2.2.2.1, .ref a3, .int u.2.2.2.2.2.2.1, .ref a4])), (a1, .inl (c1, 300, .inr (.inl u.1))), (a2, .inl (c2, 16, .inl u.2.1)), (a3, .inl (c3, 300, .inl u.2.2.2.2.2.1)), (a4, .inl (c4, 300, .inl u.2.2.2.2.2.2.2))]) u) t) (va_A [(h0, .inr (0, [.ref a1, .ref a2, .int tk, .int ob, .int co, .ref a3, .int rc, .ref a4])), (a1, .inl (c1, 300, .inr (.inl ce))), (a2, .inl (c2, 16, .inl rg)), (a3, .inl (c3, 300, .inl re)), (a4, .inl (c4, 300, .inl np))] sz)) 1 6 (va_A [(h0, .inr (0, [.ref a1, .ref a2, .int tk, .int ob, .int co, .ref a3, .int rc, .ref a4])), (a1, .inl (c1, 300, .inr (.inl ce))), (a2, .inl (c2, 16, .inl rg)), (a3, .inl (c3, 300, .inl re)), (a4, .inl (c4, 300, .inl np))] sz) := by
  refine vx_ofW (cc := cX0_takeCells) (maxL := 4) (ret := some .int) (by decide) rfl ?_
  intro p e s m args below meth c s₁ B hml hEx hv
  obtain ⟨hargs, hsz, hP, hK, hD0, hZ⟩ := hv
  have hx := B.exec
  have hb := B.bytes
  have hr := B.returns
  have hts : ∀ w ∈ wb, w.before _ s = true := fun w h => atoms_spec (ws := wsX0_takeCells) B.pre w (List.mem_cons_of_mem _ h)
  have hown : s.vm.findClass RX0 = some m.cls := findClass_of_methodNamed B.named
  have hlocks := B.notSynchronized
  subst hsz
  have hD := hD0.self (sz := s.heap.size)
  generalize hAe : va_A [(h0, .inr (0, [.ref a1, .ref a2, .int tk, .int ob, .int co, .ref a3, .int rc, .ref a4])), (a1, .inl (c1, 300, .inr (.inl ce))), (a2, .inl (c2, 16, .inl rg)), (a3, .inl (c3, 300, .inl re)), (a4, .inl (c4, 300, .inl np))] s.heap.size = A at hD hZ ⊢
  have hA : ∀ q : Nat, s.heap.size ≤ q → A q := fun q h => by rw [← hAe]; exact Or.inr h
  have hS : va_S A s.heap s.heap [] := va_S.rf
  generalize hQ9 : vx_MQ below (fun _ _ _ _ => False) (vx_X (fun _ : (Nat → Int64) × (Nat → Int32) × Int32 × Int32 × Int32 × (Nat → Int32) × Int32 × (Nat → Int32) => True) (fun E u t => (fun (E : String) (u : (Nat → Int64) × (Nat → Int32) × Int32 × Int32 × Int32 × (Nat → Int32) × Int32 × (Nat → Int32)) => E = hz_I ∧ hp_C (hp_rm M n) u.1 u.2.1 u.2.2.1 u.2.2.2.1 u.2.2.2.2.1) E u ∧ hw_B (dC, dI) vwCl [(c1, .long), (c2, .int), (c3, .int), (c4, .int)] A ((fun u : (Nat → Int64) × (Nat → Int32) × Int32 × Int32 × Int32 × (Nat → Int32) × Int32 × (Nat → Int32) => [(h0, .inr (0, [.ref a1, .ref a2, .int u.2.2.1, .int u.2.2.2.1, .int u.2.2.2.2.1, .ref a3, .int u.2.2.2.2.2.2.1, .ref a4])), (a1, .inl (c1, 300, .inr (.inl u.1))), (a2, .inl (c2, 16, .inl u.2.1)), (a3, .inl (c3, 300, .inl u.2.2.2.2.2.1)), (a4, .inl (c4, 300, .inl u.2.2.2.2.2.2.2))]) u) t) A) args s 1 6 A = Q9
  have hl := lv_entry ([.ref h0, .int (nI k), .int (nI n)]) (n := 4) (Nat.le_of_ble_eq_true rfl)
  rw [show entryFrame m args 4 = _ from (congrArg (fun z => entryFrame m z 4) hargs).trans (lg_entry_eq m [.ref h0, .int (nI k), .int (nI n)] 4)]
  generalize (lg_sl ([.ref h0, .int (nI k), .int (nI n)]) ++ List.replicate (4 - (lg_sl ([.ref h0, .int (nI k), .int (nI n)])).length) Slot.unset).toArray = ls at hl ⊢
  have hl : lv_has ls 4 [(0, .ref h0), (1, .int (nI k)), (2, .int (nI n))] := hl
  obtain ⟨H, hH⟩ : ∃ H, H = s.heap := ⟨_, rfl⟩
  rw [← hH] at hP
  have hS : va_S A s.heap H [] := by rw [hH]; exact hS
  rw [← hH]
  generalize ([] : List Loc) = locs at hS ⊢
  have hW1 := hp_rm_W hW n
  have hT := hW.2.2.2.2.2
  have hT1 := hW1.2.2.2.2.2
  have tail : ∀ (ce : Nat → Int64) (rg : Nat → Int32) (tk : Int32) (ob : Int32) (co : Int32) (re : Nat → Int32) (rc : Int32) (np : Nat → Int32) (H : Heap) (locs : List Loc) (ls : Array Slot), (hp_C (hp_rm M n) ce rg tk ob co) → va_P (dC, dI) vwCl [(h0, .inr (0, [.ref a1, .ref a2, .int tk, .int ob, .int co, .ref a3, .int rc, .ref a4])), (a1, .inl (c1, 300, .inr (.inl ce))), (a2, .inl (c2, 16, .inl rg)), (a3, .inl (c3, 300, .inl re)), (a4, .inl (c4, 300, .inl np))] H → va_D A [(h0, .inr (0, [.ref a1, .ref a2, .int tk, .int ob, .int co, .ref a3, .int rc, .ref a4])), (a1, .inl (c1, 300, .inr (.inl ce))), (a2, .inl (c2, 16, .inl rg)), (a3, .inl (c3, 300, .inl re)), (a4, .inl (c4, 300, .inl np))] → va_S A s.heap H locs → lv_has ls 4 [(0, .ref h0), (1, .int (nI k)), (2, .int (nI n))] → W p l e (headSpec wsX0_takeCells ({ frames := 6, cells := 1, slots := 6, locals := 111 })).room s m args below meth c H locs 0 0 Q9 (F0 m 12 ls []) := by
    intro ce rg tk ob co re rc np H locs ls hI hP hD hS hl
    refine lv_aload_n hx hb dX0_takeCells_12 rfl (lv_at hl 0 rfl) ?_
    refine lv_iload_n hx hb dX0_takeCells_13 rfl (lv_at hl 2 rfl) ?_
    refine W.callR (W.runV (As := [.int (nI n)]) (rest := []) ⟨hx, hb, hml, hown, hts⟩ (c_X0_hasRoom l dC dI h0 a1 a2 a3 a4 c1 c2 c3 c4 ce rg tk ob co re rc np _ (nI n)) (cwV 1 hts gw_X0_90 rfl rfl rfl ⟨rfl, by decide, by decide, by decide +kernel⟩ ⟨Nat.le_of_ble_eq_true rfl, Nat.le_of_ble_eq_true rfl⟩) ⟨hw_blind, va_recv (q0 := 0) (ci := 0) (q := (RX0, TX0, 8)) hK hP rfl rfl, hw_pay hP hK hD⟩ rfl rfl hl.1 rfl (lv_room (Nat.le_of_ble_eq_true rfl)) dX0_takeCells_14 ⟨by decide, by decide⟩) ?_
    refine W.eq (g2 := F0 m 17 ls [.int (if tk + 1 + nI n ≤ 300 then 1 else 0)]) rfl ?_
    refine hw_topi (y := if hp_tk (hp_rm M n) + (1 + n) ≤ 300 then 1 else 0) (by rw [hI.1]; exact hp_ri hT1 hn) ?_
    refine lv_if_ne hx hb dX0_takeCells_17 (tgt := 30) (by decide) (fun hc => ?_) (fun hc => ?_)
    · exact absurd (hp_rf hfull) hc
    · skip
      subst hQ9
      obtain ⟨q9, hq9⟩ := hZ.2.2.2.2.2.2.2
      exact vx_throwS (own := RX0) (cls := hz_I) (names := hz_up) hx hb hl9 hown (by decide +kernel) (by decide +kernel) (hts _ bw_cl_X0_94) (hts _ bw_in_java_lang_IllegalStateException) hq9 (hz_at98 hts hZ) (by decide +kernel) hZ.1 hZ.2.1 hS (hl.1.trans hml.symm) dX0_takeCells_20 dX0_takeCells_23 dX0_takeCells_24 dX0_takeCells_26 dX0_takeCells_29 (fun x hx => (hEx x hx).elim) (Nat.le_of_ble_eq_true rfl) (Nat.le_of_ble_eq_true rfl) (by decide) (by decide) hlocks (fun t ha hsz hk => ⟨(ce, rg, tk, ob, co, re, rc, np), trivial, ⟨⟨rfl, hI⟩, hP.kept (fun k q hq => hk q.1 (hP k q hq).lt), va_K.moved ha hK, hD⟩, Nat.le_trans hS.1 hsz, fun q h1 h2 => (hk q (Nat.lt_of_lt_of_le h1 hS.1)).trans (hS.2.1 q h1 h2)⟩) hS.2.2 (by decide) (by decide)
  refine lv_aload_n hx hb dX0_takeCells_0 rfl (lv_at hl 0 rfl) ?_
  refine lv_iload_n hx hb dX0_takeCells_1 rfl (lv_at hl 2 rfl) ?_
  refine W.callR (W.runV (As := [.int (nI n)]) (rest := []) ⟨hx, hb, hml, hown, hts⟩ (c_X0_hasRoom l dC dI h0 a1 a2 a3 a4 c1 c2 c3 c4 ce rg tk ob co re rc np _ (nI n)) (cwV 1 hts gw_X0_90 rfl rfl rfl ⟨rfl, by decide, by decide, by decide +kernel⟩ ⟨Nat.le_of_ble_eq_true rfl, Nat.le_of_ble_eq_true rfl⟩) ⟨hw_blind, va_recv (q0 := 0) (ci := 0) (q := (RX0, TX0, 8)) hK hP rfl rfl, hw_pay hP hK hD⟩ rfl rfl hl.1 rfl (lv_room (Nat.le_of_ble_eq_true rfl)) dX0_takeCells_2 ⟨by decide, by decide⟩) ?_
  refine W.eq (g2 := F0 m 5 ls [.int (if tk + 1 + nI n ≤ 300 then 1 else 0)]) rfl ?_
  refine hw_topi (y := if hp_tk M + (1 + n) ≤ 300 then 1 else 0) (by rw [hC.1]; exact hp_ri hT hn) ?_
  refine lv_if_ne hx hb dX0_takeCells_5 (tgt := 12) (by decide) (fun hc => ?_) (fun hc => ?_)
  · have hf : hp_tk M + (1 + n) ≤ 300 := Classical.byContradiction fun h9 => hc (hp_rf h9)
    exact tail ce rg tk ob co re rc np H locs ls (by rw [hp_rm_t hf]; exact hC) hP hD hS (lv_sub hl [0, 1, 2] rfl)
  · have hf : ¬ hp_tk M + (1 + n) ≤ 300 := fun h9 => hp_10 ((hp_rt h9).symm.trans hc)
    refine lv_aload_n hx hb dX0_takeCells_8 rfl (lv_at hl 0 rfl) ?_
    refine hw_callv (va_runV (As := []) (rest := []) ⟨hx, hb, hml, hown, hts⟩ (c_X0_pressTogether l dC dI h0 a1 a2 a3 a4 c1 c2 c3 c4 ce rg tk ob co re rc np _ M hW hC) (cwV 0 hts gw_X0_73 rfl rfl rfl ⟨rfl, by decide, by decide, by decide +kernel⟩ ⟨Nat.le_of_ble_eq_true rfl, Nat.le_of_ble_eq_true rfl⟩) ⟨hw_blind, va_recv (q0 := 0) (ci := 0) (q := (RX0, TX0, 8)) hK hP rfl rfl, hw_pay hP hK hD⟩ rfl rfl hl.1 rfl (lv_room (Nat.le_of_ble_eq_true rfl)) dX0_takeCells_9 ⟨by decide, by decide⟩) hD hS hA (fun u9 H locs hw hP hD hS => ?_)
    obtain ⟨ce, rg, tk, ob, co, re, rc, np⟩ := u9
    have hP : va_P (dC, dI) vwCl [(h0, .inr (0, [.ref a1, .ref a2, .int tk, .int ob, .int co, .ref a3, .int rc, .ref a4])), (a1, .inl (c1, 300, .inr (.inl ce))), (a2, .inl (c2, 16, .inl rg)), (a3, .inl (c3, 300, .inl re)), (a4, .inl (c4, 300, .inl np))] H := hP
    have hD : va_D A [(h0, .inr (0, [.ref a1, .ref a2, .int tk, .int ob, .int co, .ref a3, .int rc, .ref a4])), (a1, .inl (c1, 300, .inr (.inl ce))), (a2, .inl (c2, 16, .inl rg)), (a3, .inl (c3, 300, .inl re)), (a4, .inl (c4, 300, .inl np))] := hD
    exact tail ce rg tk ob co re rc np H locs ls (by rw [hp_rm_f hf]; exact hw) hP hD hS (lv_sub hl [0, 1, 2] rfl)
