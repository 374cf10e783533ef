set_option maxHeartbeats 4000000 in
set_option maxRecDepth 100000 in
theorem c_X0_drop (l : Launch) (dC : Nat → ClassId) (dI : Nat → Nat → Nat) (h0 a1 a2 a3 a4 : Nat) (c1 c2 c3 c4 : ClassId) (ce : Nat → Int64) (rg : Nat → Int32) (tk ob co : Int32) (re : Nat → Int32) (rc : Int32) (np : Nat → Int32) (sz : Nat) (M : hp_S) (hW : hp_W M) (hC : hp_C M ce rg tk ob co) (j : Nat) (hj : j < 16) : Met l yX0_drop wsX0_drop ({ frames := 2, cells := 0, slots := 0, locals := 41 }) (va_Pc [.ref h0, .int (nI j)] (hw_pre (dC, dI) vwCl [(c1, .long), (c2, .int), (c3, .int), (c4, .int)] [(h0, .inr (0, [.ref a1, .ref a2, .int tk, .int ob, .int co, .ref a3, .int rc, .ref a4])), (a1, .inl (c1, 300, .inr (.inl ce))), (a2, .inl (c2, 16, .inl rg)), (a3, .inl (c3, 300, .inl re)), (a4, .inl (c4, 300, .inl np))] sz)) (va_Qv (fun u : Nat → Int32 => hp_C (hp_sr M j 0) ce u tk ob co) (fun u t => hw_B (dC, dI) vwCl [(c1, .long), (c2, .int), (c3, .int), (c4, .int)] (va_A [(h0, .inr (0, [.ref a1, .ref a2, .int tk, .int ob, .int co, .ref a3, .int rc, .ref a4])), (a1, .inl (c1, 300, .inr (.inl ce))), (a2, .inl (c2, 16, .inl rg)), (a3, .inl (c3, 300, .inl re)), (a4, .inl (c4, 300, .inl np))] sz) ((fun u : Nat → Int32 => [(h0, .inr (0, [.ref a1, .ref a2, .int tk, .int ob, .int co, .ref a3, .int rc, .ref a4])), (a1, .inl (c1, 300, .inr (.inl ce))), (a2, .inl (c2, 16, .inl u)), (a3, .inl (c3, 300, .inl re)), (a4, .inl (c4, 300, .inl np))]) u) t) (va_A [(h0, .inr (0, [.ref a1, .ref a2, .int tk, .int ob, .int co, .ref a3, .int rc, .ref a4])), (a1, .inl (c1, 300, .inr (.inl ce))), (a2, .inl (c2, 16, .inl rg)), (a3, .inl (c3, 300, .inl re)), (a4, .inl (c4, 300, .inl np))] sz)) 0 0 (va_A [(h0, .inr (0, [.ref a1, .ref a2, .int tk, .int ob, .int co, .ref a3, .int rc, .ref a4])), (a1, .inl (c1, 300, .inr (.inl ce))), (a2, .inl (c2, 16, .inl rg)), (a3, .inl (c3, 300, .inl re)), (a4, .inl (c4, 300, .inl np))] sz) := by
  refine Met.ofW (cc := cX0_drop) (maxL := 2) (ret := none) (by decide) rfl ?_
  intro p e s m args below meth c s₁ B hml hv
  obtain ⟨hargs, hsz, hP, hK, hD0⟩ := hv
  have hx := B.exec
  have hb := B.bytes
  have hr := B.returns
  have hts : ∀ w ∈ wb, w.before _ s = true := fun w h => atoms_spec (ws := wsX0_drop) B.pre w (List.mem_cons_of_mem _ h)
  have hown : s.vm.findClass RX0 = some m.cls := findClass_of_methodNamed B.named
  have hlocks := B.notSynchronized
  subst hsz
  have hD := hD0.self (sz := s.heap.size)
  generalize hAe : va_A [(h0, .inr (0, [.ref a1, .ref a2, .int tk, .int ob, .int co, .ref a3, .int rc, .ref a4])), (a1, .inl (c1, 300, .inr (.inl ce))), (a2, .inl (c2, 16, .inl rg)), (a3, .inl (c3, 300, .inl re)), (a4, .inl (c4, 300, .inl np))] s.heap.size = A at hD ⊢
  have hA : ∀ q : Nat, s.heap.size ≤ q → A q := fun q h => by rw [← hAe]; exact Or.inr h
  have hS : va_S A s.heap s.heap [] := va_S.rf
  generalize hQ9 : MQ below (va_Qv (fun u : Nat → Int32 => hp_C (hp_sr M j 0) ce u tk ob co) (fun u t => hw_B (dC, dI) vwCl [(c1, .long), (c2, .int), (c3, .int), (c4, .int)] A ((fun u : Nat → Int32 => [(h0, .inr (0, [.ref a1, .ref a2, .int tk, .int ob, .int co, .ref a3, .int rc, .ref a4])), (a1, .inl (c1, 300, .inr (.inl ce))), (a2, .inl (c2, 16, .inl u)), (a3, .inl (c3, 300, .inl re)), (a4, .inl (c4, 300, .inl np))]) u) t) A) args s 0 0 A = Q9
  have hl := lv_entry ([.ref h0, .int (nI j)]) (n := 2) (Nat.le_of_ble_eq_true rfl)
  rw [show entryFrame m args 2 = _ from (congrArg (fun z => entryFrame m z 2) hargs).trans (lg_entry_eq m [.ref h0, .int (nI j)] 2)]
  generalize (lg_sl ([.ref h0, .int (nI j)]) ++ List.replicate (2 - (lg_sl ([.ref h0, .int (nI j)])).length) Slot.unset).toArray = ls at hl ⊢
  have hl : lv_has ls 2 [(0, .ref h0), (1, .int (nI j))] := hl
  obtain ⟨H, hH⟩ : ∃ H, H = s.heap := ⟨_, rfl⟩
  rw [← hH] at hP
  have hS : va_S A s.heap H [] := by rw [hH]; exact hS
  rw [← hH]
  generalize ([] : List Loc) = locs at hS ⊢
  refine lv_iload_n hx hb dX0_drop_0 rfl (lv_at hl 1 rfl) ?_
  refine hw_callN (W.runS (As := [.int (nI j)]) (rest := []) ⟨hx, hb, hml, hown, hts⟩ (c_X0_checkRegister l (hp_ok2 hj (by decide))) (va_cwS 1 hts gw_X0_42 rfl rfl rfl ⟨by decide, by decide, by decide +kernel⟩ ⟨Nat.le_of_ble_eq_true rfl, Nat.le_of_ble_eq_true rfl⟩) preEq rfl rfl hl.1 rfl (lv_room (Nat.le_of_ble_eq_true rfl)) dX0_drop_1 ⟨by decide, by decide⟩) ?_
  refine lv_aload_n hx hb dX0_drop_4 rfl (lv_at hl 0 rfl) ?_
  refine va_get (D := (dC, dI)) (ci := 0) (v := .ref a2) (C := RX0) (T := TX0) (N := 8) hx hb hts inX0 hown hK hP 0 rfl rfl 1 (by decide) (hts _ bw_fl_X0_13) (fun _ h9 => h9) rfl dX0_drop_5 ?_
  refine lv_iload_n hx hb dX0_drop_8 rfl (lv_at hl 1 rfl) ?_
  refine lv_iconst (v := (-1)) hx hb dX0_drop_9 (by decide) ?_
  refine hw_iast (j := j) hx hb hK hP hD hS 2 1 rfl rfl (rfl) (hj) (by decide) dX0_drop_10 (fun H locs hP hD hS => ?_)
  have hP : va_P (dC, dI) vwCl [(h0, .inr (0, [.ref a1, .ref a2, .int tk, .int ob, .int co, .ref a3, .int rc, .ref a4])), (a1, .inl (c1, 300, .inr (.inl ce))), (a2, .inl (c2, 16, .inl (upd rg j (-1)))), (a3, .inl (c3, 300, .inl re)), (a4, .inl (c4, 300, .inl np))] H := hP
  have hD : va_D A [(h0, .inr (0, [.ref a1, .ref a2, .int tk, .int ob, .int co, .ref a3, .int rc, .ref a4])), (a1, .inl (c1, 300, .inr (.inl ce))), (a2, .inl (c2, 16, .inl (upd rg j (-1)))), (a3, .inl (c3, 300, .inl re)), (a4, .inl (c4, 300, .inl np))] := hD
  subst hQ9
  exact W.vret hx hb hr (fun t ht hWm => ⟨⟨(upd rg j (-1)), rfl, hp_sr_C hC j 0, by rw [ht]; exact hP, va_K.moved hWm.alike hK, hD⟩, hS.F ht⟩) hS.2.2 dX0_drop_11

set_option maxHeartbeats 4000000 in
set_option maxRecDepth 100000 in
theorem x_X0_drop (l : Launch) (dC : Nat → ClassId) (dI : Nat → Nat → Nat) (h0 a1 a2 a3 a4 : Nat) (c1 c2 c3 c4 : ClassId) (ce : Nat → Int64) (rg : Nat → Int32) (tk ob co : Int32) (re : Nat → Int32) (rc : Int32) (np : Nat → Int32) (sz : Nat) (hl9 : l.stackTraces = false) (r : Int32) (hbad : hp_bad r 16) : vx_Met l yX0_drop wsX0_drop ({ frames := 8, cells := 1, slots := 6, locals := 131 }) (va_Pc [.ref h0, .int r] (hx_pre (dC, dI) vwCl [(c1, .long), (c2, .int), (c3, .int), (c4, .int)] [(h0, .inr (0, [.ref a1, .ref a2, .int tk, .int ob, .int co, .ref a3, .int rc, .ref a4])), (a1, .inl (c1, 300, .inr (.inl ce))), (a2, .inl (c2, 16, .inl rg)), (a3, .inl (c3, 300, .inl re)), (a4, .inl (c4, 300, .inl np))] sz)) (fun _ _ _ _ => False) (vx_X (fun _ : Unit => True) (fun E u t => (fun (E : String) (_ : Unit) => E = hz_A) E u ∧ hw_B (dC, dI) vwCl [(c1, .long), (c2, .int), (c3, .int), (c4, .int)] (va_A [(h0, .inr (0, [.ref a1, .ref a2, .int tk, .int ob, .int co, .ref a3, .int rc, .ref a4])), (a1, .inl (c1, 300, .inr (.inl ce))), (a2, .inl (c2, 16, .inl rg)), (a3, .inl (c3, 300, .inl re)), (a4, .inl (c4, 300, .inl np))] sz) ((fun _ : Unit => [(h0, .inr (0, [.ref a1, .ref a2, .int tk, .int ob, .int co, .ref a3, .int rc, .ref a4])), (a1, .inl (c1, 300, .inr (.inl ce))), (a2, .inl (c2, 16, .inl rg)), (a3, .inl (c3, 300, .inl re)), (a4, .inl (c4, 300, .inl np))]) u) t) (va_A [(h0, .inr (0, [.ref a1, .ref a2, .int tk, .int ob, .int co, .ref a3, .int rc, .ref a4])), (a1, .inl (c1, 300, .inr (.inl ce))), (a2, .inl (c2, 16, .inl rg)), (a3, .inl (c3, 300, .inl re)), (a4, .inl (c4, 300, .inl np))] sz)) 1 6 (va_A [(h0, .inr (0, [.ref a1, .ref a2, .int tk, .int ob, .int co, .ref a3, .int rc, .ref a4])), (a1, .inl (c1, 300, .inr (.inl ce))), (a2, .inl (c2, 16, .inl rg)), (a3, .inl (c3, 300, .inl re)), (a4, .inl (c4, 300, .inl np))] sz) := by
  refine vx_ofW (cc := cX0_drop) (maxL := 2) (ret := none) (by decide) rfl ?_
  intro p e s m args below meth c s₁ B hml hEx hv
  obtain ⟨hargs, hsz, hP, hK, hD0, hZ⟩ := hv
  have hx := B.exec
  have hb := B.bytes
  have hr := B.returns
  have hts : ∀ w ∈ wb, w.before _ s = true := fun w h => atoms_spec (ws := wsX0_drop) B.pre w (List.mem_cons_of_mem _ h)
  have hown : s.vm.findClass RX0 = some m.cls := findClass_of_methodNamed B.named
  have hlocks := B.notSynchronized
  subst hsz
  have hD := hD0.self (sz := s.heap.size)
  generalize hAe : va_A [(h0, .inr (0, [.ref a1, .ref a2, .int tk, .int ob, .int co, .ref a3, .int rc, .ref a4])), (a1, .inl (c1, 300, .inr (.inl ce))), (a2, .inl (c2, 16, .inl rg)), (a3, .inl (c3, 300, .inl re)), (a4, .inl (c4, 300, .inl np))] s.heap.size = A at hD hZ ⊢
  have hA : ∀ q : Nat, s.heap.size ≤ q → A q := fun q h => by rw [← hAe]; exact Or.inr h
  have hS : va_S A s.heap s.heap [] := va_S.rf
  generalize hQ9 : vx_MQ below (fun _ _ _ _ => False) (vx_X (fun _ : Unit => True) (fun E u t => (fun (E : String) (_ : Unit) => E = hz_A) E u ∧ hw_B (dC, dI) vwCl [(c1, .long), (c2, .int), (c3, .int), (c4, .int)] A ((fun _ : Unit => [(h0, .inr (0, [.ref a1, .ref a2, .int tk, .int ob, .int co, .ref a3, .int rc, .ref a4])), (a1, .inl (c1, 300, .inr (.inl ce))), (a2, .inl (c2, 16, .inl rg)), (a3, .inl (c3, 300, .inl re)), (a4, .inl (c4, 300, .inl np))]) u) t) A) args s 1 6 A = Q9
  have hl := lv_entry ([.ref h0, .int r]) (n := 2) (Nat.le_of_ble_eq_true rfl)
  rw [show entryFrame m args 2 = _ from (congrArg (fun z => entryFrame m z 2) hargs).trans (lg_entry_eq m [.ref h0, .int r] 2)]
  generalize (lg_sl ([.ref h0, .int r]) ++ List.replicate (2 - (lg_sl ([.ref h0, .int r])).length) Slot.unset).toArray = ls at hl ⊢
  have hl : lv_has ls 2 [(0, .ref h0), (1, .int r)] := hl
  obtain ⟨H, hH⟩ : ∃ H, H = s.heap := ⟨_, rfl⟩
  rw [← hH] at hP
  have hS : va_S A s.heap H [] := by rw [hH]; exact hS
  rw [← hH]
  generalize ([] : List Loc) = locs at hS ⊢
  refine lv_iload_n hx hb dX0_drop_0 rfl (lv_at hl 1 rfl) ?_
  refine hx_throws (vx_runS (As := [.int r]) (rest := []) ⟨hx, hb, hml, hown, hts⟩ (x_X0_checkRegister l hl9 dC dI _ hbad) (va_cwS 1 hts gw_X0_42 rfl rfl rfl ⟨by decide, by decide, by decide +kernel⟩ ⟨Nat.le_of_ble_eq_true rfl, Nat.le_of_ble_eq_true rfl⟩) ⟨hx_blind, hx_pay hx_P0 (hK.sub (tys' := []) [] rfl) hx_D0 hS hA hZ⟩ rfl rfl hl.1 rfl (lv_room (Nat.le_of_ble_eq_true rfl)) dX0_drop_1 ⟨by decide, by decide⟩) hP hS hA (fun E ce9 q9 H locs hb9 hP hS h1 h2 h3 => ?_)
  subst hQ9
  exact vx_out (fun x hx => (hEx x hx).elim) hlocks h1 h2 h3 (fun t ht ha => ⟨(), trivial, ⟨hb9, by rw [ht]; exact hP, va_K.moved ha hK, hD⟩, hS.F ht⟩) hS.2.2 (Nat.le_of_ble_eq_true rfl) (Nat.le_of_ble_eq_true rfl)

set_option maxHeartbeats 4000000 in
set_option maxRecDepth 100000 in
theorem c_X0_copy (l : Launch) (dC : Nat → ClassId) (dI : Nat → Nat → Nat) (h0 a1 a2 a3 a4 : Nat) (c1 c2 c3 c4 : ClassId) (ce : Nat → Int64) (rg : Nat → Int32) (tk ob co : Int32) (re : Nat → Int32) (rc : Int32) (np : Nat → Int32) (sz : Nat) (M : hp_S) (hW : hp_W M) (hC : hp_C M ce rg tk ob co) (j i : Nat) (hj : j < 16) (hi : i < 16) : Met l yX0_copy wsX0_copy ({ frames := 2, cells := 0, slots := 0, locals := 41 }) (va_Pc [.ref h0, .int (nI j), .int (nI i)] (hw_pre (dC, dI) vwCl [(c1, .long), (c2, .int), (c3, .int), (c4, .int)] [(h0, .inr (0, [.ref a1, .ref a2, .int tk, .int ob, .int co, .ref a3, .int rc, .ref a4])), (a1, .inl (c1, 300, .inr (.inl ce))), (a2, .inl (c2, 16, .inl rg)), (a3, .inl (c3, 300, .inl re)), (a4, .inl (c4, 300, .inl np))] sz)) (va_Qv (fun u : Nat → Int32 => hp_C (hp_sr M j (hp_r M i)) ce u tk ob co) (fun u t => hw_B (dC, dI) vwCl [(c1, .long), (c2, .int), (c3, .int), (c4, .int)] (va_A [(h0, .inr (0, [.ref a1, .ref a2, .int tk, .int ob, .int co, .ref a3, .int rc, .ref a4])), (a1, .inl (c1, 300, .inr (.inl ce))), (a2, .inl (c2, 16, .inl rg)), (a3, .inl (c3, 300, .inl re)), (a4, .inl (c4, 300, .inl np))] sz) ((fun u : Nat → Int32 => [(h0, .inr (0, [.ref a1, .ref a2, .int tk, .int ob, .int co, .ref a3, .int rc, .ref a4])), (a1, .inl (c1, 300, .inr (.inl ce))), (a2, .inl (c2, 16, .inl u)), (a3, .inl (c3, 300, .inl re)), (a4, .inl (c4, 300, .inl np))]) u) t) (va_A [(h0, .inr (0, [.ref a1, .ref a2, .int tk, .int ob, .int co, .ref a3, .int rc, .ref a4])), (a1, .inl (c1, 300, .inr (.inl ce))), (a2, .inl (c2, 16, .inl rg)), (a3, .inl (c3, 300, .inl re)), (a4, .inl (c4, 300, .inl np))] sz)) 0 0 (va_A [(h0, .inr (0, [.ref a1, .ref a2, .int tk, .int ob, .int co, .ref a3, .int rc, .ref a4])), (a1, .inl (c1, 300, .inr (.inl ce))), (a2, .inl (c2, 16, .inl rg)), (a3, .inl (c3, 300, .inl re)), (a4, .inl (c4, 300, .inl np))] sz) := by
  refine Met.ofW (cc := cX0_copy) (maxL := 3) (ret := none) (by decide) rfl ?_
  intro p e s m args below meth c s₁ B hml hv
  obtain ⟨hargs, hsz, hP, hK, hD0⟩ := hv
  have hx := B.exec
  have hb := B.bytes
  have hr := B.returns
  have hts : ∀ w ∈ wb, w.before _ s = true := fun w h => atoms_spec (ws := wsX0_copy) B.pre w (List.mem_cons_of_mem _ h)
  have hown : s.vm.findClass RX0 = some m.cls := findClass_of_methodNamed B.named
  have hlocks := B.notSynchronized
  subst hsz
  have hD := hD0.self (sz := s.heap.size)
  generalize hAe : va_A [(h0, .inr (0, [.ref a1, .ref a2, .int tk, .int ob, .int co, .ref a3, .int rc, .ref a4])), (a1, .inl (c1, 300, .inr (.inl ce))), (a2, .inl (c2, 16, .inl rg)), (a3, .inl (c3, 300, .inl re)), (a4, .inl (c4, 300, .inl np))] s.heap.size = A at hD ⊢
  have hA : ∀ q : Nat, s.heap.size ≤ q → A q := fun q h => by rw [← hAe]; exact Or.inr h
  have hS : va_S A s.heap s.heap [] := va_S.rf
  generalize hQ9 : MQ below (va_Qv (fun u : Nat → Int32 => hp_C (hp_sr M j (hp_r M i)) ce u tk ob co) (fun u t => hw_B (dC, dI) vwCl [(c1, .long), (c2, .int), (c3, .int), (c4, .int)] A ((fun u : Nat → Int32 => [(h0, .inr (0, [.ref a1, .ref a2, .int tk, .int ob, .int co, .ref a3, .int rc, .ref a4])), (a1, .inl (c1, 300, .inr (.inl ce))), (a2, .inl (c2, 16, .inl u)), (a3, .inl (c3, 300, .inl re)), (a4, .inl (c4, 300, .inl np))]) u) t) A) args s 0 0 A = Q9
  have hl := lv_entry ([.ref h0, .int (nI j), .int (nI i)]) (n := 3) (Nat.le_of_ble_eq_true rfl)
  rw [show entryFrame m args 3 = _ from (congrArg (fun z => entryFrame m z 3) hargs).trans (lg_entry_eq m [.ref h0, .int (nI j), .int (nI i)] 3)]
  generalize (lg_sl ([.ref h0, .int (nI j), .int (nI i)]) ++ List.replicate (3 - (lg_sl ([.ref h0, .int (nI j), .int (nI i)])).length) Slot.unset).toArray = ls at hl ⊢
  have hl : lv_has ls 3 [(0, .ref h0), (1, .int (nI j)), (2, .int (nI i))] := hl
  obtain ⟨H, hH⟩ : ∃ H, H = s.heap := ⟨_, rfl⟩
  rw [← hH] at hP
  have hS : va_S A s.heap H [] := by rw [hH]; exact hS
  rw [← hH]
  generalize ([] : List Loc) = locs at hS ⊢
  refine lv_iload_n hx hb dX0_copy_0 rfl (lv_at hl 1 rfl) ?_
  refine hw_callN (W.runS (As := [.int (nI j)]) (rest := []) ⟨hx, hb, hml, hown, hts⟩ (c_X0_checkRegister l (hp_ok2 hj (by decide))) (va_cwS 1 hts gw_X0_42 rfl rfl rfl ⟨by decide, by decide, by decide +kernel⟩ ⟨Nat.le_of_ble_eq_true rfl, Nat.le_of_ble_eq_true rfl⟩) preEq rfl rfl hl.1 rfl (lv_room (Nat.le_of_ble_eq_true rfl)) dX0_copy_1 ⟨by decide, by decide⟩) ?_
  refine lv_iload_n hx hb dX0_copy_4 rfl (lv_at hl 2 rfl) ?_
  refine hw_callN (W.runS (As := [.int (nI i)]) (rest := []) ⟨hx, hb, hml, hown, hts⟩ (c_X0_checkRegister l (hp_ok2 hi (by decide))) (va_cwS 1 hts gw_X0_42 rfl rfl rfl ⟨by decide, by decide, by decide +kernel⟩ ⟨Nat.le_of_ble_eq_true rfl, Nat.le_of_ble_eq_true rfl⟩) preEq rfl rfl hl.1 rfl (lv_room (Nat.le_of_ble_eq_true rfl)) dX0_copy_5 ⟨by decide, by decide⟩) ?_
  refine lv_aload_n hx hb dX0_copy_8 rfl (lv_at hl 0 rfl) ?_
  refine va_get (D := (dC, dI)) (ci := 0) (v := .ref a2) (C := RX0) (T := TX0) (N := 8) hx hb hts inX0 hown hK hP 0 rfl rfl 1 (by decide) (hts _ bw_fl_X0_13) (fun _ h9 => h9) rfl dX0_copy_9 ?_
  refine lv_iload_n hx hb dX0_copy_12 rfl (lv_at hl 1 rfl) ?_
  refine lv_aload_n hx hb dX0_copy_13 rfl (lv_at hl 0 rfl) ?_
  refine va_get (D := (dC, dI)) (ci := 0) (v := .ref a2) (C := RX0) (T := TX0) (N := 8) hx hb hts inX0 hown hK hP 0 rfl rfl 1 (by decide) (hts _ bw_fl_X0_13) (fun _ h9 => h9) rfl dX0_copy_14 ?_
  refine lv_iload_n hx hb dX0_copy_17 rfl (lv_at hl 2 rfl) ?_
  refine hw_iald (j := i) hx hb hK hP 2 1 rfl rfl (rfl) (hi) (by decide) dX0_copy_18 ?_
  refine hw_topi (y := hp_e M (hp_r M i)) (hC.2.2.2.1 i hi) ?_
  refine hw_iast (j := j) hx hb hK hP hD hS 2 1 rfl rfl (rfl) (hj) (by decide) dX0_copy_19 (fun H locs hP hD hS => ?_)
  have hP : va_P (dC, dI) vwCl [(h0, .inr (0, [.ref a1, .ref a2, .int tk, .int ob, .int co, .ref a3, .int rc, .ref a4])), (a1, .inl (c1, 300, .inr (.inl ce))), (a2, .inl (c2, 16, .inl (upd rg j (hp_e M (hp_r M i))))), (a3, .inl (c3, 300, .inl re)), (a4, .inl (c4, 300, .inl np))] H := hP
  have hD : va_D A [(h0, .inr (0, [.ref a1, .ref a2, .int tk, .int ob, .int co, .ref a3, .int rc, .ref a4])), (a1, .inl (c1, 300, .inr (.inl ce))), (a2, .inl (c2, 16, .inl (upd rg j (hp_e M (hp_r M i))))), (a3, .inl (c3, 300, .inl re)), (a4, .inl (c4, 300, .inl np))] := hD
  subst hQ9
  exact W.vret hx hb hr (fun t ht hWm => ⟨⟨(upd rg j (hp_e M (hp_r M i))), rfl, hp_sr_C hC j _, by rw [ht]; exact hP, va_K.moved hWm.alike hK, hD⟩, hS.F ht⟩) hS.2.2 dX0_copy_20

set_option maxHeartbeats 4000000 in
set_option maxRecDepth 100000 in
theorem x_X0_copy (l : Launch) (dC : Nat → ClassId) (dI : Nat → Nat → Nat) (h0 a1 a2 a3 a4 : Nat) (c1 c2 c3 c4 : ClassId) (ce : Nat → Int64) (rg : Nat → Int32) (tk ob co : Int32) (re : Nat → Int32) (rc : Int32) (np : Nat → Int32) (sz : Nat) (hl9 : l.stackTraces = false) (r t : Int32) (hbad : hp_bad r 16 ∨ hp_bad t 16) : vx_Met l yX0_copy wsX0_copy ({ frames := 8, cells := 1, slots := 6, locals := 131 }) (va_Pc [.ref h0, .int r, .int t] (hx_pre (dC, dI) vwCl [(c1, .long), (c2, .int), (c3, .int), (c4, .int)] [(h0, .inr (0, [.ref a1, .ref a2, .int tk, .int ob, .int co, .ref a3, .int rc, .ref a4])), (a1, .inl (c1, 300, .inr (.inl ce))), (a2, .inl (c2, 16, .inl rg)), (a3, .inl (c3, 300, .inl re)), (a4, .inl (c4, 300, .inl np))] sz)) (fun _ _ _ _ => False) (vx_X (fun _ : Unit => True) (fun E u t => (fun (E : String) (_ : Unit) => E = hz_A) E u ∧ hw_B (dC, dI) vwCl [(c1, .long), (c2, .int), (c3, .int), (c4, .int)] (va_A [(h0, .inr (0, [.ref a1, .ref a2, .int tk, .int ob, .int co, .ref a3, .int rc, .ref a4])), (a1, .inl (c1, 300, .inr (.inl ce))), (a2, .inl (c2, 16, .inl rg)), (a3, .inl (c3, 300, .inl re)), (a4, .inl (c4, 300, .inl np))] sz) ((fun _ : Unit => [(h0, .inr (0, [.ref a1, .ref a2, .int tk, .int ob, .int co, .ref a3, .int rc, .ref a4])), (a1, .inl (c1, 300, .inr (.inl ce))), (a2, .inl (c2, 16, .inl rg)), (a3, .inl (c3, 300, .inl re)), (a4, .inl (c4, 300, .inl np))]) u) t) (va_A [(h0, .inr (0, [.ref a1, .ref a2, .int tk, .int ob, .int co, .ref a3, .int rc, .ref a4])), (a1, .inl (c1, 300, .inr (.inl ce))), (a2, .inl (c2, 16, .inl rg)), (a3, .inl (c3, 300, .inl re)), (a4, .inl (c4, 300, .inl np))] sz)) 1 6 (va_A [(h0, .inr (0, [.ref a1, .ref a2, .int tk, .int ob, .int co, .ref a3, .int rc, .ref a4])), (a1, .inl (c1, 300, .inr (.inl ce))), (a2, .inl (c2, 16, .inl rg)), (a3, .inl (c3, 300, .inl re)), (a4, .inl (c4, 300, .inl np))] sz) := by
  refine vx_ofW (cc := cX0_copy) (maxL := 3) (ret := none) (by decide) rfl ?_
  intro p e s m args below meth c s₁ B hml hEx hv
  obtain ⟨hargs, hsz, hP, hK, hD0, hZ⟩ := hv
  have hx := B.exec
  have hb := B.bytes
  have hr := B.returns
  have hts : ∀ w ∈ wb, w.before _ s = true := fun w h => atoms_spec (ws := wsX0_copy) B.pre w (List.mem_cons_of_mem _ h)
  have hown : s.vm.findClass RX0 = some m.cls := findClass_of_methodNamed B.named
  have hlocks := B.notSynchronized
  subst hsz
  have hD := hD0.self (sz := s.heap.size)
  generalize hAe : va_A [(h0, .inr (0, [.ref a1, .ref a2, .int tk, .int ob, .int co, .ref a3, .int rc, .ref a4])), (a1, .inl (c1, 300, .inr (.inl ce))), (a2, .inl (c2, 16, .inl rg)), (a3, .inl (c3, 300, .inl re)), (a4, .inl (c4, 300, .inl np))] s.heap.size = A at hD hZ ⊢
  have hA : ∀ q : Nat, s.heap.size ≤ q → A q := fun q h => by rw [← hAe]; exact Or.inr h
  have hS : va_S A s.heap s.heap [] := va_S.rf
  generalize hQ9 : vx_MQ below (fun _ _ _ _ => False) (vx_X (fun _ : Unit => True) (fun E u t => (fun (E : String) (_ : Unit) => E = hz_A) E u ∧ hw_B (dC, dI) vwCl [(c1, .long), (c2, .int), (c3, .int), (c4, .int)] A ((fun _ : Unit => [(h0, .inr (0, [.ref a1, .ref a2, .int tk, .int ob, .int co, .ref a3, .int rc, .ref a4])), (a1, .inl (c1, 300, .inr (.inl ce))), (a2, .inl (c2, 16, .inl rg)), (a3, .inl (c3, 300, .inl re)), (a4, .inl (c4, 300, .inl np))]) u) t) A) args s 1 6 A = Q9
  have hl := lv_entry ([.ref h0, .int r, .int t]) (n := 3) (Nat.le_of_ble_eq_true rfl)
  rw [show entryFrame m args 3 = _ from (congrArg (fun z => entryFrame m z 3) hargs).trans (lg_entry_eq m [.ref h0, .int r, .int t] 3)]
  generalize (lg_sl ([.ref h0, .int r, .int t]) ++ List.replicate (3 - (lg_sl ([.ref h0, .int r, .int t])).length) Slot.unset).toArray = ls at hl ⊢
  have hl : lv_has ls 3 [(0, .ref h0), (1, .int r), (2, .int t)] := hl
  obtain ⟨H, hH⟩ : ∃ H, H = s.heap := ⟨_, rfl⟩
  rw [← hH] at hP
  have hS : va_S A s.heap H [] := by rw [hH]; exact hS
  rw [← hH]
  generalize ([] : List Loc) = locs at hS ⊢
  refine lv_iload_n hx hb dX0_copy_0 rfl (lv_at hl 1 rfl) ?_
  by_cases hr1 : hp_bad r 16
  · skip
    refine hx_throws (vx_runS (As := [.int r]) (rest := []) ⟨hx, hb, hml, hown, hts⟩ (x_X0_checkRegister l hl9 dC dI _ hr1) (va_cwS 1 hts gw_X0_42 rfl rfl rfl ⟨by decide, by decide, by decide +kernel⟩ ⟨Nat.le_of_ble_eq_true rfl, Nat.le_of_ble_eq_true rfl⟩) ⟨hx_blind, hx_pay hx_P0 (hK.sub (tys' := []) [] rfl) hx_D0 hS hA hZ⟩ rfl rfl hl.1 rfl (lv_room (Nat.le_of_ble_eq_true rfl)) dX0_copy_1 ⟨by decide, by decide⟩) hP hS hA (fun E ce9 q9 H locs hb9 hP hS h1 h2 h3 => ?_)
    subst hQ9
    exact vx_out (fun x hx => (hEx x hx).elim) hlocks h1 h2 h3 (fun t ht ha => ⟨(), trivial, ⟨hb9, by rw [ht]; exact hP, va_K.moved ha hK, hD⟩, hS.F ht⟩) hS.2.2 (Nat.le_of_ble_eq_true rfl) (Nat.le_of_ble_eq_true rfl)
  · skip
    refine hw_callN (W.runS (As := [.int r]) (rest := []) ⟨hx, hb, hml, hown, hts⟩ (c_X0_checkRegister l hr1) (va_cwS 1 hts gw_X0_42 rfl rfl rfl ⟨by decide, by decide, by decide +kernel⟩ ⟨Nat.le_of_ble_eq_true rfl, Nat.le_of_ble_eq_true rfl⟩) preEq rfl rfl hl.1 rfl (lv_room (Nat.le_of_ble_eq_true rfl)) dX0_copy_1 ⟨by decide, by decide⟩) ?_
    refine lv_iload_n hx hb dX0_copy_4 rfl (lv_at hl 2 rfl) ?_
    refine hx_throws (vx_runS (As := [.int t]) (rest := []) ⟨hx, hb, hml, hown, hts⟩ (x_X0_checkRegister l hl9 dC dI _ (hbad.resolve_left hr1)) (va_cwS 1 hts gw_X0_42 rfl rfl rfl ⟨by decide, by decide, by decide +kernel⟩ ⟨Nat.le_of_ble_eq_true rfl, Nat.le_of_ble_eq_true rfl⟩) ⟨hx_blind, hx_pay hx_P0 (hK.sub (tys' := []) [] rfl) hx_D0 hS hA hZ⟩ rfl rfl hl.1 rfl (lv_room (Nat.le_of_ble_eq_true rfl)) dX0_copy_5 ⟨by decide, by decide⟩) hP hS hA (fun E ce9 q9 H locs hb9 hP hS h1 h2 h3 => ?_)
    subst hQ9
    exact vx_out (fun x hx => (hEx x hx).elim) hlocks h1 h2 h3 (fun t ht ha => ⟨(), trivial, ⟨hb9, by rw [ht]; exact hP, va_K.moved ha hK, hD⟩, hS.F ht⟩) hS.2.2 (Nat.le_of_ble_eq_true rfl) (Nat.le_of_ble_eq_true rfl)

set_option maxHeartbeats 4000000 in
set_option maxRecDepth 100000 in
theorem c_X0_link (l : Launch) (dC : Nat → ClassId) (dI : Nat → Nat → Nat) (h0 a1 a2 a3 a4 : Nat) (c1 c2 c3 c4 : ClassId) (ce : Nat → Int64) (rg : Nat → Int32) (tk ob co : Int32) (re : Nat → Int32) (rc : Int32) (np : Nat → Int32) (sz : Nat) (M : hp_S) (hW : hp_W M) (hC : hp_C M ce rg tk ob co) (j q i : Nat) (hj : j < 16) (hi : i < 16) (h0n : hp_r M j ≠ 0) (hk1 : hp_k M (hp_r M j) = 1) (hq : q < hp_z M (hp_r M j)) : Met l yX0_link wsX0_link ({ frames := 2, cells := 0, slots := 0, locals := 41 }) (va_Pc [.ref h0, .int (nI j), .int (nI q), .int (nI i)] (hw_pre (dC, dI) vwCl [(c1, .long), (c2, .int), (c3, .int), (c4, .int)] [(h0, .inr (0, [.ref a1, .ref a2, .int tk, .int ob, .int co, .ref a3, .int rc, .ref a4])), (a1, .inl (c1, 300, .inr (.inl ce))), (a2, .inl (c2, 16, .inl rg)), (a3, .inl (c3, 300, .inl re)), (a4, .inl (c4, 300, .inl np))] sz)) (va_Qv (fun u : Nat → Int64 => hp_C (hp_sl M (hp_r M j) q (hp_r M i)) u rg tk ob co) (fun u t => hw_B (dC, dI) vwCl [(c1, .long), (c2, .int), (c3, .int), (c4, .int)] (va_A [(h0, .inr (0, [.ref a1, .ref a2, .int tk, .int ob, .int co, .ref a3, .int rc, .ref a4])), (a1, .inl (c1, 300, .inr (.inl ce))), (a2, .inl (c2, 16, .inl rg)), (a3, .inl (c3, 300, .inl re)), (a4, .inl (c4, 300, .inl np))] sz) ((fun u : Nat → Int64 => [(h0, .inr (0, [.ref a1, .ref a2, .int tk, .int ob, .int co, .ref a3, .int rc, .ref a4])), (a1, .inl (c1, 300, .inr (.inl u))), (a2, .inl (c2, 16, .inl rg)), (a3, .inl (c3, 300, .inl re)), (a4, .inl (c4, 300, .inl np))]) u) t) (va_A [(h0, .inr (0, [.ref a1, .ref a2, .int tk, .int ob, .int co, .ref a3, .int rc, .ref a4])), (a1, .inl (c1, 300, .inr (.inl ce))), (a2, .inl (c2, 16, .inl rg)), (a3, .inl (c3, 300, .inl re)), (a4, .inl (c4, 300, .inl np))] sz)) 0 0 (va_A [(h0, .inr (0, [.ref a1, .ref a2, .int tk, .int ob, .int co, .ref a3, .int rc, .ref a4])), (a1, .inl (c1, 300, .inr (.inl ce))), (a2, .inl (c2, 16, .inl rg)), (a3, .inl (c3, 300, .inl re)), (a4, .inl (c4, 300, .inl np))] sz) := by
  refine Met.ofW (cc := cX0_link) (maxL := 5) (ret := none) (by decide) rfl ?_
  intro p e s m args below meth c s₁ B hml hv
  obtain ⟨hargs, hsz, hP, hK, hD0⟩ := hv
  have hx := B.exec
  have hb := B.bytes
  have hr := B.returns
  have hts : ∀ w ∈ wb, w.before _ s = true := fun w h => atoms_spec (ws := wsX0_link) B.pre w (List.mem_cons_of_mem _ h)
  have hown : s.vm.findClass RX0 = some m.cls := findClass_of_methodNamed B.named
  have hlocks := B.notSynchronized
  subst hsz
  have hD := hD0.self (sz := s.heap.size)
  generalize hAe : va_A [(h0, .inr (0, [.ref a1, .ref a2, .int tk, .int ob, .int co, .ref a3, .int rc, .ref a4])), (a1, .inl (c1, 300, .inr (.inl ce))), (a2, .inl (c2, 16, .inl rg)), (a3, .inl (c3, 300, .inl re)), (a4, .inl (c4, 300, .inl np))] s.heap.size = A at hD ⊢
  have hA : ∀ q : Nat, s.heap.size ≤ q → A q := fun q h => by rw [← hAe]; exact Or.inr h
  have hS : va_S A s.heap s.heap [] := va_S.rf
  generalize hQ9 : MQ below (va_Qv (fun u : Nat → Int64 => hp_C (hp_sl M (hp_r M j) q (hp_r M i)) u rg tk ob co) (fun u t => hw_B (dC, dI) vwCl [(c1, .long), (c2, .int), (c3, .int), (c4, .int)] A ((fun u : Nat → Int64 => [(h0, .inr (0, [.ref a1, .ref a2, .int tk, .int ob, .int co, .ref a3, .int rc, .ref a4])), (a1, .inl (c1, 300, .inr (.inl u))), (a2, .inl (c2, 16, .inl rg)), (a3, .inl (c3, 300, .inl re)), (a4, .inl (c4, 300, .inl np))]) u) t) A) args s 0 0 A = Q9
  have hl := lv_entry ([.ref h0, .int (nI j), .int (nI q), .int (nI i)]) (n := 5) (Nat.le_of_ble_eq_true rfl)
  rw [show entryFrame m args 5 = _ from (congrArg (fun z => entryFrame m z 5) hargs).trans (lg_entry_eq m [.ref h0, .int (nI j), .int (nI q), .int (nI i)] 5)]
  generalize (lg_sl ([.ref h0, .int (nI j), .int (nI q), .int (nI i)]) ++ List.replicate (5 - (lg_sl ([.ref h0, .int (nI j), .int (nI q), .int (nI i)])).length) Slot.unset).toArray = ls at hl ⊢
  have hl : lv_has ls 5 [(0, .ref h0), (1, .int (nI j)), (2, .int (nI q)), (3, .int (nI i))] := hl
  obtain ⟨H, hH⟩ : ∃ H, H = s.heap := ⟨_, rfl⟩
  rw [← hH] at hP
  have hS : va_S A s.heap H [] := by rw [hH]; exact hS
  rw [← hH]
  generalize ([] : List Loc) = locs at hS ⊢
  refine lv_iload_n hx hb dX0_link_0 rfl (lv_at hl 1 rfl) ?_
  have hoL := (hW.2.2.2.1 j hj).resolve_left h0n
  have hcell := hC.2.2.2.2 _ hoL
  have hlt := hp_pl_lt hW hoL
  have hz9 := (hW.2.1 _ hoL).2.2.2.2.1
  refine hw_callN (W.runS (As := [.int (nI j)]) (rest := []) ⟨hx, hb, hml, hown, hts⟩ (c_X0_checkRegister l (hp_ok2 hj (by decide))) (va_cwS 1 hts gw_X0_42 rfl rfl rfl ⟨by decide, by decide, by decide +kernel⟩ ⟨Nat.le_of_ble_eq_true rfl, Nat.le_of_ble_eq_true rfl⟩) preEq rfl rfl hl.1 rfl (lv_room (Nat.le_of_ble_eq_true rfl)) dX0_link_1 ⟨by decide, by decide⟩) ?_
  refine lv_iload_n hx hb dX0_link_4 rfl (lv_at hl 3 rfl) ?_
  refine hw_callN (W.runS (As := [.int (nI i)]) (rest := []) ⟨hx, hb, hml, hown, hts⟩ (c_X0_checkRegister l (hp_ok2 hi (by decide))) (va_cwS 1 hts gw_X0_42 rfl rfl rfl ⟨by decide, by decide, by decide +kernel⟩ ⟨Nat.le_of_ble_eq_true rfl, Nat.le_of_ble_eq_true rfl⟩) preEq rfl rfl hl.1 rfl (lv_room (Nat.le_of_ble_eq_true rfl)) dX0_link_5 ⟨by decide, by decide⟩) ?_
  refine lv_aload_n hx hb dX0_link_8 rfl (lv_at hl 0 rfl) ?_
  refine va_get (D := (dC, dI)) (ci := 0) (v := .ref a2) (C := RX0) (T := TX0) (N := 8) hx hb hts inX0 hown hK hP 0 rfl rfl 1 (by decide) (hts _ bw_fl_X0_13) (fun _ h9 => h9) rfl dX0_link_9 ?_
  refine lv_iload_n hx hb dX0_link_12 rfl (lv_at hl 1 rfl) ?_
  refine hw_iald (j := j) hx hb hK hP 2 1 rfl rfl (rfl) (hj) (by decide) dX0_link_13 ?_
  refine hw_topi (y := nI (hp_pl M (hp_r M j))) ((hC.2.2.2.1 j hj).trans (hp_en h0n)) ?_
  refine lv_istore hx hb dX0_link_14 hl (by decide) rfl (fun ls hl => ?_)
  have hl : lv_has ls 5 [(4, .int (nI (hp_pl M (hp_r M j)))), (0, .ref h0), (1, .int (nI j)), (2, .int (nI q)), (3, .int (nI i))] := hl
  refine lv_iload hx hb dX0_link_16 (lv_at hl 0 rfl) ?_
  refine hw_callN (W.runS (As := [.int (nI (hp_pl M (hp_r M j)))]) (rest := []) ⟨hx, hb, hml, hown, hts⟩ (c_X0_checkNotNull l (hp_neg1 (by omega))) (va_cwS 1 hts gw_X0_56 rfl rfl rfl ⟨by decide, by decide, by decide +kernel⟩ ⟨Nat.le_of_ble_eq_true rfl, Nat.le_of_ble_eq_true rfl⟩) preEq rfl rfl hl.1 rfl (lv_room (Nat.le_of_ble_eq_true rfl)) dX0_link_18 ⟨by decide, by decide⟩) ?_
  refine lv_aload_n hx hb dX0_link_21 rfl (lv_at hl 1 rfl) ?_
  refine lv_iload hx hb dX0_link_22 (lv_at hl 0 rfl) ?_
  refine W.callR (W.runV (As := [.int (nI (hp_pl M (hp_r M j)))]) (rest := []) ⟨hx, hb, hml, hown, hts⟩ (c_X0_kindAt l dC dI h0 a1 a2 a3 a4 c1 c2 c3 c4 ce rg tk ob co re rc np _ (by omega)) (cwV 1 hts gw_X0_59 rfl rfl rfl ⟨rfl, by decide, by decide, by decide +kernel⟩ ⟨Nat.le_of_ble_eq_true rfl, Nat.le_of_ble_eq_true rfl⟩) ⟨hw_blind, va_recv (q0 := 0) (ci := 0) (q := (RX0, TX0, 8)) hK hP rfl rfl, hw_pay hP hK hD⟩ rfl rfl hl.1 rfl (lv_room (Nat.le_of_ble_eq_true rfl)) dX0_link_24 ⟨by decide, by decide⟩) ?_
  refine W.eq (g2 := F0 m 27 ls [.int ((ce (hp_pl M (hp_r M j))).toInt32 &&& 3)]) rfl ?_
  refine hw_topi (y := nI (hp_k M (hp_r M j))) (hp_rkind hW hoL hcell.1) ?_
  refine lv_iconst (v := 1) hx hb dX0_link_27 (by decide) ?_
  refine lv_icmp_ne hx hb dX0_link_28 (tgt := 35) (by decide) (fun hc => ?_) (fun hc => ?_)
  · exact absurd (by rw [hk1]; decide) hc
  · skip
    refine lv_iconst (v := 1) hx hb dX0_link_31 (by decide) ?_
    refine lv_goto hx hb dX0_link_32 (tgt := 36) (by decide) ?_
    refine hw_callN (W.runS (As := [.int 1]) (rest := []) ⟨hx, hb, hml, hown, hts⟩ (c_X0_checkKind l ) (va_cwS 1 hts gw_X0_63 rfl rfl rfl ⟨by decide, by decide, by decide +kernel⟩ ⟨Nat.le_of_ble_eq_true rfl, Nat.le_of_ble_eq_true rfl⟩) preEq rfl rfl hl.1 rfl (lv_room (Nat.le_of_ble_eq_true rfl)) dX0_link_36 ⟨by decide, by decide⟩) ?_
    refine lv_iload_n hx hb dX0_link_39 rfl (lv_at hl 3 rfl) ?_
    refine lv_aload_n hx hb dX0_link_40 rfl (lv_at hl 1 rfl) ?_
    refine lv_iload hx hb dX0_link_41 (lv_at hl 0 rfl) ?_
    refine W.callR (W.runV (As := [.int (nI (hp_pl M (hp_r M j)))]) (rest := [.int (nI q)]) ⟨hx, hb, hml, hown, hts⟩ (c_X0_lengthAt l dC dI h0 a1 a2 a3 a4 c1 c2 c3 c4 ce rg tk ob co re rc np _ (by omega)) (cwV 1 hts gw_X0_67 rfl rfl rfl ⟨rfl, by decide, by decide, by decide +kernel⟩ ⟨Nat.le_of_ble_eq_true rfl, Nat.le_of_ble_eq_true rfl⟩) ⟨hw_blind, va_recv (q0 := 0) (ci := 0) (q := (RX0, TX0, 8)) hK hP rfl rfl, hw_pay hP hK hD⟩ rfl rfl hl.1 rfl (lv_room (Nat.le_of_ble_eq_true rfl)) dX0_link_43 ⟨by decide, by decide⟩) ?_
    refine W.eq (g2 := F0 m 46 ls [.int ((ce (hp_pl M (hp_r M j))).toInt32 >>> ((2 : Int32) &&& 31)), .int (nI q)]) rfl ?_
    refine hw_topi (y := nI (hp_z M (hp_r M j))) (hp_rlen hW hoL hcell.1) ?_
    refine hw_callN (W.runS (As := [.int (nI q), .int (nI (hp_z M (hp_r M j)))]) (rest := []) ⟨hx, hb, hml, hown, hts⟩ (c_X0_checkBelow l (hp_ok2 hq (by omega))) (va_cwS 2 hts gw_X0_46 rfl rfl rfl ⟨by decide, by decide, by decide +kernel⟩ ⟨Nat.le_of_ble_eq_true rfl, Nat.le_of_ble_eq_true rfl⟩) preEq rfl rfl hl.1 rfl (lv_room (Nat.le_of_ble_eq_true rfl)) dX0_link_46 ⟨by decide, by decide⟩) ?_
    refine lv_aload_n hx hb dX0_link_49 rfl (lv_at hl 1 rfl) ?_
    refine va_get (D := (dC, dI)) (ci := 0) (v := .ref a1) (C := RX0) (T := TX0) (N := 8) hx hb hts inX0 hown hK hP 0 rfl rfl 0 (by decide) (hts _ bw_fl_X0_9) (fun _ h9 => h9) rfl dX0_link_50 ?_
    refine lv_iload hx hb dX0_link_53 (lv_at hl 0 rfl) ?_
    refine lv_iconst (v := 1) hx hb dX0_link_55 (by decide) ?_
    refine lv_iadd hx hb dX0_link_56 ?_
    refine lv_iload_n hx hb dX0_link_57 rfl (lv_at hl 3 rfl) ?_
    refine lv_iadd hx hb dX0_link_58 ?_
    refine lv_aload_n hx hb dX0_link_59 rfl (lv_at hl 1 rfl) ?_
    refine va_get (D := (dC, dI)) (ci := 0) (v := .ref a2) (C := RX0) (T := TX0) (N := 8) hx hb hts inX0 hown hK hP 0 rfl rfl 1 (by decide) (hts _ bw_fl_X0_13) (fun _ h9 => h9) rfl dX0_link_60 ?_
    refine lv_iload_n hx hb dX0_link_63 rfl (lv_at hl 4 rfl) ?_
    refine hw_iald (j := i) hx hb hK hP 2 1 rfl rfl (rfl) (hi) (by decide) dX0_link_64 ?_
    refine hw_topi (y := hp_e M (hp_r M i)) (hC.2.2.2.1 i hi) ?_
    refine lv_i2l hx hb dX0_link_65 rfl ?_
    refine hw_last (j := hp_pl M (hp_r M j) + (1 + q)) hx hb hK hP hD hS 1 0 rfl rfl (by rw [nI_1, nI_add]; congr 1; omega) (by omega) (by decide) dX0_link_66 (fun H locs hP hD hS => ?_)
    have hP : va_P (dC, dI) vwCl [(h0, .inr (0, [.ref a1, .ref a2, .int tk, .int ob, .int co, .ref a3, .int rc, .ref a4])), (a1, .inl (c1, 300, .inr (.inl (vp_updL ce (hp_pl M (hp_r M j) + (1 + q)) ((hp_e M (hp_r M i)).toInt64))))), (a2, .inl (c2, 16, .inl rg)), (a3, .inl (c3, 300, .inl re)), (a4, .inl (c4, 300, .inl np))] H := hP
    have hD : va_D A [(h0, .inr (0, [.ref a1, .ref a2, .int tk, .int ob, .int co, .ref a3, .int rc, .ref a4])), (a1, .inl (c1, 300, .inr (.inl (vp_updL ce (hp_pl M (hp_r M j) + (1 + q)) ((hp_e M (hp_r M i)).toInt64))))), (a2, .inl (c2, 16, .inl rg)), (a3, .inl (c3, 300, .inl re)), (a4, .inl (c4, 300, .inl np))] := hD
    subst hQ9
    exact W.vret hx hb hr (fun t ht hWm => ⟨⟨(vp_updL ce (hp_pl M (hp_r M j) + (1 + q)) ((hp_e M (hp_r M i)).toInt64)), rfl, hp_sl_C hC hoL (by omega) hq, by rw [ht]; exact hP, va_K.moved hWm.alike hK, hD⟩, hS.F ht⟩) hS.2.2 dX0_link_67

set_option maxHeartbeats 4000000 in
set_option maxRecDepth 100000 in
theorem c_X0_follow (l : Launch) (dC : Nat → ClassId) (dI : Nat → Nat → Nat) (h0 a1 a2 a3 a4 : Nat) (c1 c2 c3 c4 : ClassId) (ce : Nat → Int64) (rg : Nat → Int32) (tk ob co : Int32) (re : Nat → Int32) (rc : Int32) (np : Nat → Int32) (sz : Nat) (M : hp_S) (hW : hp_W M) (hC : hp_C M ce rg tk ob co) (j i q : Nat) (hj : j < 16) (hi : i < 16) (h0n : hp_r M i ≠ 0) (hk1 : hp_k M (hp_r M i) ≠ 2) (hq : q < hp_z M (hp_r M i)) : Met l yX0_follow wsX0_follow ({ frames := 2, cells := 0, slots := 0, locals := 41 }) (va_Pc [.ref h0, .int (nI j), .int (nI i), .int (nI q)] (hw_pre (dC, dI) vwCl [(c1, .long), (c2, .int), (c3, .int), (c4, .int)] [(h0, .inr (0, [.ref a1, .ref a2, .int tk, .int ob, .int co, .ref a3, .int rc, .ref a4])), (a1, .inl (c1, 300, .inr (.inl ce))), (a2, .inl (c2, 16, .inl rg)), (a3, .inl (c3, 300, .inl re)), (a4, .inl (c4, 300, .inl np))] sz)) (va_Qv (fun u : Nat → Int32 => hp_C (hp_sr M j (hp_l M (hp_r M i) q)) ce u tk ob co) (fun u t => hw_B (dC, dI) vwCl [(c1, .long), (c2, .int), (c3, .int), (c4, .int)] (va_A [(h0, .inr (0, [.ref a1, .ref a2, .int tk, .int ob, .int co, .ref a3, .int rc, .ref a4])), (a1, .inl (c1, 300, .inr (.inl ce))), (a2, .inl (c2, 16, .inl rg)), (a3, .inl (c3, 300, .inl re)), (a4, .inl (c4, 300, .inl np))] sz) ((fun u : Nat → Int32 => [(h0, .inr (0, [.ref a1, .ref a2, .int tk, .int ob, .int co, .ref a3, .int rc, .ref a4])), (a1, .inl (c1, 300, .inr (.inl ce))), (a2, .inl (c2, 16, .inl u)), (a3, .inl (c3, 300, .inl re)), (a4, .inl (c4, 300, .inl np))]) u) t) (va_A [(h0, .inr (0, [.ref a1, .ref a2, .int tk, .int ob, .int co, .ref a3, .int rc, .ref a4])), (a1, .inl (c1, 300, .inr (.inl ce))), (a2, .inl (c2, 16, .inl rg)), (a3, .inl (c3, 300, .inl re)), (a4, .inl (c4, 300, .inl np))] sz)) 0 0 (va_A [(h0, .inr (0, [.ref a1, .ref a2, .int tk, .int ob, .int co, .ref a3, .int rc, .ref a4])), (a1, .inl (c1, 300, .inr (.inl ce))), (a2, .inl (c2, 16, .inl rg)), (a3, .inl (c3, 300, .inl re)), (a4, .inl (c4, 300, .inl np))] sz) := by
  refine Met.ofW (cc := cX0_follow) (maxL := 5) (ret := none) (by decide) rfl ?_
  intro p e s m args below meth c s₁ B hml hv
  obtain ⟨hargs, hsz, hP, hK, hD0⟩ := hv
  have hx := B.exec
  have hb := B.bytes
  have hr := B.returns
  have hts : ∀ w ∈ wb, w.before _ s = true := fun w h => atoms_spec (ws := wsX0_follow) B.pre w (List.mem_cons_of_mem _ h)
  have hown : s.vm.findClass RX0 = some m.cls := findClass_of_methodNamed B.named
  have hlocks := B.notSynchronized
  subst hsz
  have hD := hD0.self (sz := s.heap.size)
  generalize hAe : va_A [(h0, .inr (0, [.ref a1, .ref a2, .int tk, .int ob, .int co, .ref a3, .int rc, .ref a4])), (a1, .inl (c1, 300, .inr (.inl ce))), (a2, .inl (c2, 16, .inl rg)), (a3, .inl (c3, 300, .inl re)), (a4, .inl (c4, 300, .inl np))] s.heap.size = A at hD ⊢
  have hA : ∀ q : Nat, s.heap.size ≤ q → A q := fun q h => by rw [← hAe]; exact Or.inr h
  have hS : va_S A s.heap s.heap [] := va_S.rf
  generalize hQ9 : MQ below (va_Qv (fun u : Nat → Int32 => hp_C (hp_sr M j (hp_l M (hp_r M i) q)) ce u tk ob co) (fun u t => hw_B (dC, dI) vwCl [(c1, .long), (c2, .int), (c3, .int), (c4, .int)] A ((fun u : Nat → Int32 => [(h0, .inr (0, [.ref a1, .ref a2, .int tk, .int ob, .int co, .ref a3, .int rc, .ref a4])), (a1, .inl (c1, 300, .inr (.inl ce))), (a2, .inl (c2, 16, .inl u)), (a3, .inl (c3, 300, .inl re)), (a4, .inl (c4, 300, .inl np))]) u) t) A) args s 0 0 A = Q9
  have hl := lv_entry ([.ref h0, .int (nI j), .int (nI i), .int (nI q)]) (n := 5) (Nat.le_of_ble_eq_true rfl)
  rw [show entryFrame m args 5 = _ from (congrArg (fun z => entryFrame m z 5) hargs).trans (lg_entry_eq m [.ref h0, .int (nI j), .int (nI i), .int (nI q)] 5)]
  generalize (lg_sl ([.ref h0, .int (nI j), .int (nI i), .int (nI q)]) ++ List.replicate (5 - (lg_sl ([.ref h0, .int (nI j), .int (nI i), .int (nI q)])).length) Slot.unset).toArray = ls at hl ⊢
  have hl : lv_has ls 5 [(0, .ref h0), (1, .int (nI j)), (2, .int (nI i)), (3, .int (nI q))] := hl
  obtain ⟨H, hH⟩ : ∃ H, H = s.heap := ⟨_, rfl⟩
  rw [← hH] at hP
  have hS : va_S A s.heap H [] := by rw [hH]; exact hS
  rw [← hH]
  generalize ([] : List Loc) = locs at hS ⊢
  refine lv_iload_n hx hb dX0_follow_0 rfl (lv_at hl 1 rfl) ?_
  have hoL := (hW.2.2.2.1 i hi).resolve_left h0n
  have hcell := hC.2.2.2.2 _ hoL
  have hlt := hp_pl_lt hW hoL
  have hz9 := (hW.2.1 _ hoL).2.2.2.2.1
  refine hw_callN (W.runS (As := [.int (nI j)]) (rest := []) ⟨hx, hb, hml, hown, hts⟩ (c_X0_checkRegister l (hp_ok2 hj (by decide))) (va_cwS 1 hts gw_X0_42 rfl rfl rfl ⟨by decide, by decide, by decide +kernel⟩ ⟨Nat.le_of_ble_eq_true rfl, Nat.le_of_ble_eq_true rfl⟩) preEq rfl rfl hl.1 rfl (lv_room (Nat.le_of_ble_eq_true rfl)) dX0_follow_1 ⟨by decide, by decide⟩) ?_
  refine lv_iload_n hx hb dX0_follow_4 rfl (lv_at hl 2 rfl) ?_
  refine hw_callN (W.runS (As := [.int (nI i)]) (rest := []) ⟨hx, hb, hml, hown, hts⟩ (c_X0_checkRegister l (hp_ok2 hi (by decide))) (va_cwS 1 hts gw_X0_42 rfl rfl rfl ⟨by decide, by decide, by decide +kernel⟩ ⟨Nat.le_of_ble_eq_true rfl, Nat.le_of_ble_eq_true rfl⟩) preEq rfl rfl hl.1 rfl (lv_room (Nat.le_of_ble_eq_true rfl)) dX0_follow_5 ⟨by decide, by decide⟩) ?_
  refine lv_aload_n hx hb dX0_follow_8 rfl (lv_at hl 0 rfl) ?_
  refine va_get (D := (dC, dI)) (ci := 0) (v := .ref a2) (C := RX0) (T := TX0) (N := 8) hx hb hts inX0 hown hK hP 0 rfl rfl 1 (by decide) (hts _ bw_fl_X0_13) (fun _ h9 => h9) rfl dX0_follow_9 ?_
  refine lv_iload_n hx hb dX0_follow_12 rfl (lv_at hl 2 rfl) ?_
  refine hw_iald (j := i) hx hb hK hP 2 1 rfl rfl (rfl) (hi) (by decide) dX0_follow_13 ?_
  refine hw_topi (y := nI (hp_pl M (hp_r M i))) ((hC.2.2.2.1 i hi).trans (hp_en h0n)) ?_
  refine lv_istore hx hb dX0_follow_14 hl (by decide) rfl (fun ls hl => ?_)
  have hl : lv_has ls 5 [(4, .int (nI (hp_pl M (hp_r M i)))), (0, .ref h0), (1, .int (nI j)), (2, .int (nI i)), (3, .int (nI q))] := hl
  refine lv_iload hx hb dX0_follow_16 (lv_at hl 0 rfl) ?_
  refine hw_callN (W.runS (As := [.int (nI (hp_pl M (hp_r M i)))]) (rest := []) ⟨hx, hb, hml, hown, hts⟩ (c_X0_checkNotNull l (hp_neg1 (by omega))) (va_cwS 1 hts gw_X0_56 rfl rfl rfl ⟨by decide, by decide, by decide +kernel⟩ ⟨Nat.le_of_ble_eq_true rfl, Nat.le_of_ble_eq_true rfl⟩) preEq rfl rfl hl.1 rfl (lv_room (Nat.le_of_ble_eq_true rfl)) dX0_follow_18 ⟨by decide, by decide⟩) ?_
  refine lv_aload_n hx hb dX0_follow_21 rfl (lv_at hl 1 rfl) ?_
  refine lv_iload hx hb dX0_follow_22 (lv_at hl 0 rfl) ?_
  refine W.callR (W.runV (As := [.int (nI (hp_pl M (hp_r M i)))]) (rest := []) ⟨hx, hb, hml, hown, hts⟩ (c_X0_kindAt l dC dI h0 a1 a2 a3 a4 c1 c2 c3 c4 ce rg tk ob co re rc np _ (by omega)) (cwV 1 hts gw_X0_59 rfl rfl rfl ⟨rfl, by decide, by decide, by decide +kernel⟩ ⟨Nat.le_of_ble_eq_true rfl, Nat.le_of_ble_eq_true rfl⟩) ⟨hw_blind, va_recv (q0 := 0) (ci := 0) (q := (RX0, TX0, 8)) hK hP rfl rfl, hw_pay hP hK hD⟩ rfl rfl hl.1 rfl (lv_room (Nat.le_of_ble_eq_true rfl)) dX0_follow_24 ⟨by decide, by decide⟩) ?_
  refine W.eq (g2 := F0 m 27 ls [.int ((ce (hp_pl M (hp_r M i))).toInt32 &&& 3)]) rfl ?_
  refine hw_topi (y := nI (hp_k M (hp_r M i))) (hp_rkind hW hoL hcell.1) ?_
  refine lv_iconst (v := 2) hx hb dX0_follow_27 (by decide) ?_
  refine lv_icmp_eq hx hb dX0_follow_28 (tgt := 35) (by decide) (fun hc => ?_) (fun hc => ?_)
  · exact absurd ((hp_k1 hW hoL (n := 2) (by decide)).mp hc) hk1
  · skip
    refine lv_iconst (v := 1) hx hb dX0_follow_31 (by decide) ?_
    refine lv_goto hx hb dX0_follow_32 (tgt := 36) (by decide) ?_
    refine hw_callN (W.runS (As := [.int 1]) (rest := []) ⟨hx, hb, hml, hown, hts⟩ (c_X0_checkKind l ) (va_cwS 1 hts gw_X0_63 rfl rfl rfl ⟨by decide, by decide, by decide +kernel⟩ ⟨Nat.le_of_ble_eq_true rfl, Nat.le_of_ble_eq_true rfl⟩) preEq rfl rfl hl.1 rfl (lv_room (Nat.le_of_ble_eq_true rfl)) dX0_follow_36 ⟨by decide, by decide⟩) ?_
    refine lv_iload_n hx hb dX0_follow_39 rfl (lv_at hl 4 rfl) ?_
    refine lv_aload_n hx hb dX0_follow_40 rfl (lv_at hl 1 rfl) ?_
    refine lv_iload hx hb dX0_follow_41 (lv_at hl 0 rfl) ?_
    refine W.callR (W.runV (As := [.int (nI (hp_pl M (hp_r M i)))]) (rest := [.int (nI q)]) ⟨hx, hb, hml, hown, hts⟩ (c_X0_lengthAt l dC dI h0 a1 a2 a3 a4 c1 c2 c3 c4 ce rg tk ob co re rc np _ (by omega)) (cwV 1 hts gw_X0_67 rfl rfl rfl ⟨rfl, by decide, by decide, by decide +kernel⟩ ⟨Nat.le_of_ble_eq_true rfl, Nat.le_of_ble_eq_true rfl⟩) ⟨hw_blind, va_recv (q0 := 0) (ci := 0) (q := (RX0, TX0, 8)) hK hP rfl rfl, hw_pay hP hK hD⟩ rfl rfl hl.1 rfl (lv_room (Nat.le_of_ble_eq_true rfl)) dX0_follow_43 ⟨by decide, by decide⟩) ?_
    refine W.eq (g2 := F0 m 46 ls [.int ((ce (hp_pl M (hp_r M i))).toInt32 >>> ((2 : Int32) &&& 31)), .int (nI q)]) rfl ?_
    refine hw_topi (y := nI (hp_z M (hp_r M i))) (hp_rlen hW hoL hcell.1) ?_
    refine hw_callN (W.runS (As := [.int (nI q), .int (nI (hp_z M (hp_r M i)))]) (rest := []) ⟨hx, hb, hml, hown, hts⟩ (c_X0_checkBelow l (hp_ok2 hq (by omega))) (va_cwS 2 hts gw_X0_46 rfl rfl rfl ⟨by decide, by decide, by decide +kernel⟩ ⟨Nat.le_of_ble_eq_true rfl, Nat.le_of_ble_eq_true rfl⟩) preEq rfl rfl hl.1 rfl (lv_room (Nat.le_of_ble_eq_true rfl)) dX0_follow_46 ⟨by decide, by decide⟩) ?_
    refine lv_aload_n hx hb dX0_follow_49 rfl (lv_at hl 1 rfl) ?_
    refine va_get (D := (dC, dI)) (ci := 0) (v := .ref a2) (C := RX0) (T := TX0) (N := 8) hx hb hts inX0 hown hK hP 0 rfl rfl 1 (by decide) (hts _ bw_fl_X0_13) (fun _ h9 => h9) rfl dX0_follow_50 ?_
    refine lv_iload_n hx hb dX0_follow_53 rfl (lv_at hl 2 rfl) ?_
    refine lv_aload_n hx hb dX0_follow_54 rfl (lv_at hl 1 rfl) ?_
    refine va_get (D := (dC, dI)) (ci := 0) (v := .ref a1) (C := RX0) (T := TX0) (N := 8) hx hb hts inX0 hown hK hP 0 rfl rfl 0 (by decide) (hts _ bw_fl_X0_9) (fun _ h9 => h9) rfl dX0_follow_55 ?_
    refine lv_iload hx hb dX0_follow_58 (lv_at hl 0 rfl) ?_
    refine lv_iconst (v := 1) hx hb dX0_follow_60 (by decide) ?_
    refine lv_iadd hx hb dX0_follow_61 ?_
    refine lv_iload_n hx hb dX0_follow_62 rfl (lv_at hl 4 rfl) ?_
    refine lv_iadd hx hb dX0_follow_63 ?_
    refine hw_lald (j := hp_pl M (hp_r M i) + (1 + q)) hx hb hK hP 1 0 rfl rfl (by rw [nI_1, nI_add]; congr 1; omega) (by omega) (by decide) dX0_follow_64 ?_
    refine lv_l2i hx hb dX0_follow_65 rfl ?_
    refine hw_topi (y := hp_e M (hp_l M (hp_r M i) q)) (hp_rref hk1 (hcell.2 q hq)) ?_
    refine hw_iast (j := j) hx hb hK hP hD hS 2 1 rfl rfl (rfl) (hj) (by decide) dX0_follow_66 (fun H locs hP hD hS => ?_)
    have hP : va_P (dC, dI) vwCl [(h0, .inr (0, [.ref a1, .ref a2, .int tk, .int ob, .int co, .ref a3, .int rc, .ref a4])), (a1, .inl (c1, 300, .inr (.inl ce))), (a2, .inl (c2, 16, .inl (upd rg j (hp_e M (hp_l M (hp_r M i) q))))), (a3, .inl (c3, 300, .inl re)), (a4, .inl (c4, 300, .inl np))] H := hP
    have hD : va_D A [(h0, .inr (0, [.ref a1, .ref a2, .int tk, .int ob, .int co, .ref a3, .int rc, .ref a4])), (a1, .inl (c1, 300, .inr (.inl ce))), (a2, .inl (c2, 16, .inl (upd rg j (hp_e M (hp_l M (hp_r M i) q))))), (a3, .inl (c3, 300, .inl re)), (a4, .inl (c4, 300, .inl np))] := hD
    subst hQ9
    exact W.vret hx hb hr (fun t ht hWm => ⟨⟨(upd rg j (hp_e M (hp_l M (hp_r M i) q))), rfl, hp_sr_C hC j _, by rw [ht]; exact hP, va_K.moved hWm.alike hK, hD⟩, hS.F ht⟩) hS.2.2 dX0_follow_67
