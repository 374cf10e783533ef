set_option maxHeartbeats 4000000 in
set_option maxRecDepth 100000 in
theorem w_drop (l : Launch) (dC : Nat → ClassId) (dI : Nat → Nat → Nat) (h0 a1 a2 a3 a4 : Nat) (c1 c2 c3 c4 : ClassId) (ce : Nat → Int64) (rg : Nat → Int32) (tk ob co : Int32) (re : Nat → Int32) (rc : Int32) (np : Nat → Int32) (sz : Nat) (hl9 : l.stackTraces = false) (M : hp_S) (hW : hp_W M) (hC : hp_C M ce rg tk ob co) (r : Int32) (k : Nat) (hk : hp_ck (hp_bad r 16) k) : Met l yL_drop wsL_drop ({ frames := 9, cells := 1, slots := 6, locals := 160 }) (va_Pc [.ref h0, .int r] (hv_pre (dC, dI) vwCl [(c1, .long), (c2, .int), (c3, .int), (c4, .int)] [(h0, .inr (0, [.ref a1, .ref a2, .int tk, .int ob, .int co, .ref a3, .int rc, .ref a4])), (a1, .inl (c1, 300, .inr (.inl ce))), (a2, .inl (c2, 16, .inl rg)), (a3, .inl (c3, 300, .inl re)), (a4, .inl (c4, 300, .inl np))] sz)) (va_Qi (fun (x : Int32) (u : Nat → Int32) => x = nI k ∧ hp_C (hp_dd M r k) ce u tk ob co) (fun u t => hw_B (dC, dI) vwCl [(c1, .long), (c2, .int), (c3, .int), (c4, .int)] (va_A [(h0, .inr (0, [.ref a1, .ref a2, .int tk, .int ob, .int co, .ref a3, .int rc, .ref a4])), (a1, .inl (c1, 300, .inr (.inl ce))), (a2, .inl (c2, 16, .inl rg)), (a3, .inl (c3, 300, .inl re)), (a4, .inl (c4, 300, .inl np))] sz) ((fun u : Nat → Int32 => [(h0, .inr (0, [.ref a1, .ref a2, .int tk, .int ob, .int co, .ref a3, .int rc, .ref a4])), (a1, .inl (c1, 300, .inr (.inl ce))), (a2, .inl (c2, 16, .inl u)), (a3, .inl (c3, 300, .inl re)), (a4, .inl (c4, 300, .inl np))]) u) t) (va_A [(h0, .inr (0, [.ref a1, .ref a2, .int tk, .int ob, .int co, .ref a3, .int rc, .ref a4])), (a1, .inl (c1, 300, .inr (.inl ce))), (a2, .inl (c2, 16, .inl rg)), (a3, .inl (c3, 300, .inl re)), (a4, .inl (c4, 300, .inl np))] sz)) 1 6 (va_A [(h0, .inr (0, [.ref a1, .ref a2, .int tk, .int ob, .int co, .ref a3, .int rc, .ref a4])), (a1, .inl (c1, 300, .inr (.inl ce))), (a2, .inl (c2, 16, .inl rg)), (a3, .inl (c3, 300, .inl re)), (a4, .inl (c4, 300, .inl np))] sz) := by
  refine va_MetW (hh := [(0, 5, 8, 13)]) (cc := cL_drop) (maxL := 3) (ret := some .int) (by decide) rfl ?_
  intro p e s m args below meth c s₁ B hml hv
  obtain ⟨hargs, ⟨hsz, hP, hK, hD0, hZ⟩, hG⟩ := hv
  have hx := B.exec
  have hb := B.bytes
  have hr := B.returns
  have hts : ∀ w ∈ wb, w.before _ s = true := fun w h => atoms_spec (ws := wsL_drop) B.pre w (List.mem_cons_of_mem _ h)
  have hown : s.vm.findClass RL = some m.cls := findClass_of_methodNamed B.named
  have hlocks := B.notSynchronized
  have hTab := vx_table (x := yL_drop) B (atoms_spec (ws := wsL_drop) B.pre _ List.mem_cons_self)
  subst hsz
  have hD := hD0.self (sz := s.heap.size)
  generalize hAe : va_A [(h0, .inr (0, [.ref a1, .ref a2, .int tk, .int ob, .int co, .ref a3, .int rc, .ref a4])), (a1, .inl (c1, 300, .inr (.inl ce))), (a2, .inl (c2, 16, .inl rg)), (a3, .inl (c3, 300, .inl re)), (a4, .inl (c4, 300, .inl np))] s.heap.size = A at hD hZ ⊢
  have hA : ∀ q : Nat, s.heap.size ≤ q → A q := fun q h => by rw [← hAe]; exact Or.inr h
  have hS : va_S A s.heap s.heap [] := va_S.rf
  generalize hQ9 : MQ below (va_Qi (fun (x : Int32) (u : Nat → Int32) => x = nI k ∧ hp_C (hp_dd M r k) ce u tk ob co) (fun u t => hw_B (dC, dI) vwCl [(c1, .long), (c2, .int), (c3, .int), (c4, .int)] A ((fun u : Nat → Int32 => [(h0, .inr (0, [.ref a1, .ref a2, .int tk, .int ob, .int co, .ref a3, .int rc, .ref a4])), (a1, .inl (c1, 300, .inr (.inl ce))), (a2, .inl (c2, 16, .inl u)), (a3, .inl (c3, 300, .inl re)), (a4, .inl (c4, 300, .inl np))]) u) t) A) args s 1 6 A = Q9
  have hl := lv_entry ([.ref h0, .int r]) (n := 3) (Nat.le_of_ble_eq_true rfl)
  rw [show entryFrame m args 3 = _ from (congrArg (fun z => entryFrame m z 3) hargs).trans (lg_entry_eq m [.ref h0, .int r] 3)]
  generalize (lg_sl ([.ref h0, .int r]) ++ List.replicate (3 - (lg_sl ([.ref h0, .int r])).length) Slot.unset).toArray = ls at hl ⊢
  have hl : lv_has ls 3 [(0, .ref h0), (1, .int r)] := hl
  obtain ⟨H, hH⟩ : ∃ H, H = s.heap := ⟨_, rfl⟩
  rw [← hH] at hP
  have hS : va_S A s.heap H [] := by rw [hH]; exact hS
  rw [← hH]
  generalize ([] : List Loc) = locs at hS ⊢
  refine lv_aload_n hx hb dL_drop_0 rfl (lv_at hl 0 rfl) ?_
  refine lv_iload_n hx hb dL_drop_1 rfl (lv_at hl 1 rfl) ?_
  by_cases hk0 : k = 0
  · skip
    obtain ⟨j, hj, rfl⟩ := hp_ok' (hp_ck_0 hk hk0)
    have hPc := hP.sub (ws' := [(h0, .inr (0, [.ref a1, .ref a2, .int tk, .int ob, .int co, .ref a3, .int rc, .ref a4])), (a1, .inl (c1, 300, .inr (.inl ce))), (a2, .inl (c2, 16, .inl rg)), (a3, .inl (c3, 300, .inl re)), (a4, .inl (c4, 300, .inl np))]) [0, 1, 2, 3, 4] rfl
    have hDc := hD.sub (ws' := [(h0, .inr (0, [.ref a1, .ref a2, .int tk, .int ob, .int co, .ref a3, .int rc, .ref a4])), (a1, .inl (c1, 300, .inr (.inl ce))), (a2, .inl (c2, 16, .inl rg)), (a3, .inl (c3, 300, .inl re)), (a4, .inl (c4, 300, .inl np))]) [0, 1, 2, 3, 4] (by decide) rfl
    have hKc := hK.sub (tys' := [(c1, .long), (c2, .int), (c3, .int), (c4, .int)]) [0, 1, 2, 3] rfl
    refine hw_callvP (wc := [(h0, .inr (0, [.ref a1, .ref a2, .int tk, .int ob, .int co, .ref a3, .int rc, .ref a4])), (a1, .inl (c1, 300, .inr (.inl ce))), (a2, .inl (c2, 16, .inl rg)), (a3, .inl (c3, 300, .inl re)), (a4, .inl (c4, 300, .inl np))]) (wr := []) [0, 1, 2, 3, 4] [] (va_runV (As := [.int (nI j)]) (rest := []) ⟨hx, hb, hml, hown, hts⟩ (c_X0_drop l dC dI h0 a1 a2 a3 a4 c1 c2 c3 c4 ce rg tk ob co re rc np _ M hW hC j hj) (cwV 1 hts gw_L_27 rfl rfl rfl ⟨rfl, by decide, by decide, by decide +kernel⟩ ⟨Nat.le_of_ble_eq_true rfl, Nat.le_of_ble_eq_true rfl⟩) ⟨hw_blind, va_recv (q0 := 0) (ci := 0) (q := (RX0, TX0, 8)) hKc hPc rfl rfl, hw_pay hPc hKc hDc⟩ rfl rfl hl.1 rfl (lv_room (Nat.le_of_ble_eq_true rfl)) dL_drop_2 ⟨by decide, by decide⟩) hP hD hS hA rfl rfl (by decide) (by decide) (fun u9 H locs hw hP hD hS => ?_)
    obtain ⟨rg1, hrg1⟩ : ∃ z, z = u9 := ⟨_, rfl⟩
    rw [← hrg1] at hP hD hw
    have hP : va_P (dC, dI) vwCl [(h0, .inr (0, [.ref a1, .ref a2, .int tk, .int ob, .int co, .ref a3, .int rc, .ref a4])), (a1, .inl (c1, 300, .inr (.inl ce))), (a2, .inl (c2, 16, .inl rg1)), (a3, .inl (c3, 300, .inl re)), (a4, .inl (c4, 300, .inl np))] H := hP
    have hD : va_D A [(h0, .inr (0, [.ref a1, .ref a2, .int tk, .int ob, .int co, .ref a3, .int rc, .ref a4])), (a1, .inl (c1, 300, .inr (.inl ce))), (a2, .inl (c2, 16, .inl rg1)), (a3, .inl (c3, 300, .inl re)), (a4, .inl (c4, 300, .inl np))] := hD
    refine lv_goto hx hb dL_drop_5 (tgt := 11) (by decide) ?_
    refine lv_iconst (v := 0) hx hb dL_drop_11 (by decide) ?_
    subst hQ9
    refine W.widen (k := 1) (n := 6) (by decide) (by decide) ?_
    exact W.iret (v := 0) hx hb hr (fun t ht hWm => ⟨⟨0, rg1, rfl, ⟨by rw [hk0]; exact nI_0.symm, by unfold hp_dd; rw [if_pos hk0, nI_clamp (by omega)]; exact hw⟩, by rw [ht]; exact hP, va_K.moved hWm.alike hK, hD⟩, hS.F ht⟩) hS.2.2 dL_drop_12
  · skip
    have hPc := hP.sub (ws' := [(h0, .inr (0, [.ref a1, .ref a2, .int tk, .int ob, .int co, .ref a3, .int rc, .ref a4])), (a1, .inl (c1, 300, .inr (.inl ce))), (a2, .inl (c2, 16, .inl rg)), (a3, .inl (c3, 300, .inl re)), (a4, .inl (c4, 300, .inl np))]) [0, 1, 2, 3, 4] rfl
    have hDc := hD.sub (ws' := [(h0, .inr (0, [.ref a1, .ref a2, .int tk, .int ob, .int co, .ref a3, .int rc, .ref a4])), (a1, .inl (c1, 300, .inr (.inl ce))), (a2, .inl (c2, 16, .inl rg)), (a3, .inl (c3, 300, .inl re)), (a4, .inl (c4, 300, .inl np))]) [0, 1, 2, 3, 4] (by decide) rfl
    have hKc := hK.sub (tys' := [(c1, .long), (c2, .int), (c3, .int), (c4, .int)]) [0, 1, 2, 3] rfl
    refine hx_throwsP (wc := [(h0, .inr (0, [.ref a1, .ref a2, .int tk, .int ob, .int co, .ref a3, .int rc, .ref a4])), (a1, .inl (c1, 300, .inr (.inl ce))), (a2, .inl (c2, 16, .inl rg)), (a3, .inl (c3, 300, .inl re)), (a4, .inl (c4, 300, .inl np))]) (wr := []) [0, 1, 2, 3, 4] [] (vx_runV (As := [.int r]) (rest := []) ⟨hx, hb, hml, hown, hts⟩ (x_X0_drop l dC dI h0 a1 a2 a3 a4 c1 c2 c3 c4 ce rg tk ob co re rc np _ hl9 r (Classical.byContradiction fun h9 => hk0 (hp_ck_n hk h9))) (cwV 1 hts gw_L_27 rfl rfl rfl ⟨rfl, by decide, by decide, by decide +kernel⟩ ⟨Nat.le_of_ble_eq_true rfl, Nat.le_of_ble_eq_true rfl⟩) ⟨hx_blind, va_recv (q0 := 0) (ci := 0) (q := (RX0, TX0, 8)) hKc hPc rfl rfl, hx_pay hPc hKc hDc hS hA hZ⟩ rfl rfl hl.1 rfl (lv_room (Nat.le_of_ble_eq_true rfl)) dL_drop_2 ⟨by decide, by decide⟩) hP hD hS hA rfl rfl (by decide) (by decide) (fun E ce9 q9 u9 H locs hb9 hP hD hS h1 h2 h3 => ?_)
    have hP : va_P (dC, dI) vwCl [(h0, .inr (0, [.ref a1, .ref a2, .int tk, .int ob, .int co, .ref a3, .int rc, .ref a4])), (a1, .inl (c1, 300, .inr (.inl ce))), (a2, .inl (c2, 16, .inl rg)), (a3, .inl (c3, 300, .inl re)), (a4, .inl (c4, 300, .inl np))] H := hP
    have hD : va_D A [(h0, .inr (0, [.ref a1, .ref a2, .int tk, .int ob, .int co, .ref a3, .int rc, .ref a4])), (a1, .inl (c1, 300, .inr (.inl ce))), (a2, .inl (c2, 16, .inl rg)), (a3, .inl (c3, 300, .inl re)), (a4, .inl (c4, 300, .inl np))] := hD
    have hE : E = hz_A := hb9
    subst hE
    refine vx_catch (own := RL) (name := hz_A) (E := hz_A) hown [] ⟨0, 5, 8, 13⟩ [] (by rw [hTab]; rfl) (fun z hz => nomatch hz) (by decide) (by decide) (hts _ bw_cl_L_13) (va_Nw.use rfl hZ.2.2.1.1) h1 h2 h3 ?_
    refine lv_astore_n hx hb dL_drop_8 rfl hl (by decide) rfl (fun ls hl => ?_)
    have hl : lv_has ls 3 [(2, .ref q9), (0, .ref h0), (1, .int r)] := hl
    refine lv_iconst (v := 1) hx hb dL_drop_9 (by decide) ?_
    subst hQ9
    refine W.widen (k := 1) (n := 6) (by decide) (by decide) ?_
    exact W.iret (v := 1) hx hb hr (fun t ht hWm => ⟨⟨1, rg, rfl, ⟨by rw [hp_ck_y hk (Classical.byContradiction fun h9 => hk0 (hp_ck_n hk h9))]; decide, by unfold hp_dd; rw [if_neg hk0]; exact hC⟩, by rw [ht]; exact hP, va_K.moved hWm.alike hK, hD⟩, hS.F ht⟩) hS.2.2 dL_drop_10

set_option maxHeartbeats 4000000 in
set_option maxRecDepth 100000 in
theorem w_copy (l : Launch) (dC : Nat → ClassId) (dI : Nat → Nat → Nat) (h0 a1 a2 a3 a4 : Nat) (c1 c2 c3 c4 : ClassId) (ce : Nat → Int64) (rg : Nat → Int32) (tk ob co : Int32) (re : Nat → Int32) (rc : Int32) (np : Nat → Int32) (sz : Nat) (hl9 : l.stackTraces = false) (M : hp_S) (hW : hp_W M) (hC : hp_C M ce rg tk ob co) (r y : Int32) (k : Nat) (hk : hp_ck (hp_bad r 16 ∨ hp_bad y 16) k) : Met l yL_copy wsL_copy ({ frames := 9, cells := 1, slots := 6, locals := 160 }) (va_Pc [.ref h0, .int r, .int y] (hv_pre (dC, dI) vwCl [(c1, .long), (c2, .int), (c3, .int), (c4, .int)] [(h0, .inr (0, [.ref a1, .ref a2, .int tk, .int ob, .int co, .ref a3, .int rc, .ref a4])), (a1, .inl (c1, 300, .inr (.inl ce))), (a2, .inl (c2, 16, .inl rg)), (a3, .inl (c3, 300, .inl re)), (a4, .inl (c4, 300, .inl np))] sz)) (va_Qi (fun (x : Int32) (u : Nat → Int32) => x = nI k ∧ hp_C (hp_dc M r y k) ce u tk ob co) (fun u t => hw_B (dC, dI) vwCl [(c1, .long), (c2, .int), (c3, .int), (c4, .int)] (va_A [(h0, .inr (0, [.ref a1, .ref a2, .int tk, .int ob, .int co, .ref a3, .int rc, .ref a4])), (a1, .inl (c1, 300, .inr (.inl ce))), (a2, .inl (c2, 16, .inl rg)), (a3, .inl (c3, 300, .inl re)), (a4, .inl (c4, 300, .inl np))] sz) ((fun u : Nat → Int32 => [(h0, .inr (0, [.ref a1, .ref a2, .int tk, .int ob, .int co, .ref a3, .int rc, .ref a4])), (a1, .inl (c1, 300, .inr (.inl ce))), (a2, .inl (c2, 16, .inl u)), (a3, .inl (c3, 300, .inl re)), (a4, .inl (c4, 300, .inl np))]) u) t) (va_A [(h0, .inr (0, [.ref a1, .ref a2, .int tk, .int ob, .int co, .ref a3, .int rc, .ref a4])), (a1, .inl (c1, 300, .inr (.inl ce))), (a2, .inl (c2, 16, .inl rg)), (a3, .inl (c3, 300, .inl re)), (a4, .inl (c4, 300, .inl np))] sz)) 1 6 (va_A [(h0, .inr (0, [.ref a1, .ref a2, .int tk, .int ob, .int co, .ref a3, .int rc, .ref a4])), (a1, .inl (c1, 300, .inr (.inl ce))), (a2, .inl (c2, 16, .inl rg)), (a3, .inl (c3, 300, .inl re)), (a4, .inl (c4, 300, .inl np))] sz) := by
  refine va_MetW (hh := [(0, 6, 9, 13)]) (cc := cL_copy) (maxL := 4) (ret := some .int) (by decide) rfl ?_
  intro p e s m args below meth c s₁ B hml hv
  obtain ⟨hargs, ⟨hsz, hP, hK, hD0, hZ⟩, hG⟩ := hv
  have hx := B.exec
  have hb := B.bytes
  have hr := B.returns
  have hts : ∀ w ∈ wb, w.before _ s = true := fun w h => atoms_spec (ws := wsL_copy) B.pre w (List.mem_cons_of_mem _ h)
  have hown : s.vm.findClass RL = some m.cls := findClass_of_methodNamed B.named
  have hlocks := B.notSynchronized
  have hTab := vx_table (x := yL_copy) B (atoms_spec (ws := wsL_copy) B.pre _ List.mem_cons_self)
  subst hsz
  have hD := hD0.self (sz := s.heap.size)
  generalize hAe : va_A [(h0, .inr (0, [.ref a1, .ref a2, .int tk, .int ob, .int co, .ref a3, .int rc, .ref a4])), (a1, .inl (c1, 300, .inr (.inl ce))), (a2, .inl (c2, 16, .inl rg)), (a3, .inl (c3, 300, .inl re)), (a4, .inl (c4, 300, .inl np))] s.heap.size = A at hD hZ ⊢
  have hA : ∀ q : Nat, s.heap.size ≤ q → A q := fun q h => by rw [← hAe]; exact Or.inr h
  have hS : va_S A s.heap s.heap [] := va_S.rf
  generalize hQ9 : MQ below (va_Qi (fun (x : Int32) (u : Nat → Int32) => x = nI k ∧ hp_C (hp_dc M r y k) ce u tk ob co) (fun u t => hw_B (dC, dI) vwCl [(c1, .long), (c2, .int), (c3, .int), (c4, .int)] A ((fun u : Nat → Int32 => [(h0, .inr (0, [.ref a1, .ref a2, .int tk, .int ob, .int co, .ref a3, .int rc, .ref a4])), (a1, .inl (c1, 300, .inr (.inl ce))), (a2, .inl (c2, 16, .inl u)), (a3, .inl (c3, 300, .inl re)), (a4, .inl (c4, 300, .inl np))]) u) t) A) args s 1 6 A = Q9
  have hl := lv_entry ([.ref h0, .int r, .int y]) (n := 4) (Nat.le_of_ble_eq_true rfl)
  rw [show entryFrame m args 4 = _ from (congrArg (fun z => entryFrame m z 4) hargs).trans (lg_entry_eq m [.ref h0, .int r, .int y] 4)]
  generalize (lg_sl ([.ref h0, .int r, .int y]) ++ List.replicate (4 - (lg_sl ([.ref h0, .int r, .int y])).length) Slot.unset).toArray = ls at hl ⊢
  have hl : lv_has ls 4 [(0, .ref h0), (1, .int r), (2, .int y)] := hl
  obtain ⟨H, hH⟩ : ∃ H, H = s.heap := ⟨_, rfl⟩
  rw [← hH] at hP
  have hS : va_S A s.heap H [] := by rw [hH]; exact hS
  rw [← hH]
  generalize ([] : List Loc) = locs at hS ⊢
  refine lv_aload_n hx hb dL_copy_0 rfl (lv_at hl 0 rfl) ?_
  refine lv_iload_n hx hb dL_copy_1 rfl (lv_at hl 1 rfl) ?_
  refine lv_iload_n hx hb dL_copy_2 rfl (lv_at hl 2 rfl) ?_
  by_cases hk0 : k = 0
  · skip
    have hnb := hp_ck_0 hk hk0
    obtain ⟨j, hj, rfl⟩ := hp_ok' (fun h9 => hnb (Or.inl h9))
    obtain ⟨i, hi, rfl⟩ := hp_ok' (fun h9 => hnb (Or.inr h9))
    have hPc := hP.sub (ws' := [(h0, .inr (0, [.ref a1, .ref a2, .int tk, .int ob, .int co, .ref a3, .int rc, .ref a4])), (a1, .inl (c1, 300, .inr (.inl ce))), (a2, .inl (c2, 16, .inl rg)), (a3, .inl (c3, 300, .inl re)), (a4, .inl (c4, 300, .inl np))]) [0, 1, 2, 3, 4] rfl
    have hDc := hD.sub (ws' := [(h0, .inr (0, [.ref a1, .ref a2, .int tk, .int ob, .int co, .ref a3, .int rc, .ref a4])), (a1, .inl (c1, 300, .inr (.inl ce))), (a2, .inl (c2, 16, .inl rg)), (a3, .inl (c3, 300, .inl re)), (a4, .inl (c4, 300, .inl np))]) [0, 1, 2, 3, 4] (by decide) rfl
    have hKc := hK.sub (tys' := [(c1, .long), (c2, .int), (c3, .int), (c4, .int)]) [0, 1, 2, 3] rfl
    refine hw_callvP (wc := [(h0, .inr (0, [.ref a1, .ref a2, .int tk, .int ob, .int co, .ref a3, .int rc, .ref a4])), (a1, .inl (c1, 300, .inr (.inl ce))), (a2, .inl (c2, 16, .inl rg)), (a3, .inl (c3, 300, .inl re)), (a4, .inl (c4, 300, .inl np))]) (wr := []) [0, 1, 2, 3, 4] [] (va_runV (As := [.int (nI j), .int (nI i)]) (rest := []) ⟨hx, hb, hml, hown, hts⟩ (c_X0_copy l dC dI h0 a1 a2 a3 a4 c1 c2 c3 c4 ce rg tk ob co re rc np _ M hW hC j i hj hi) (cwV 2 hts gw_L_23 rfl rfl rfl ⟨rfl, by decide, by decide, by decide +kernel⟩ ⟨Nat.le_of_ble_eq_true rfl, Nat.le_of_ble_eq_true rfl⟩) ⟨hw_blind, va_recv (q0 := 0) (ci := 0) (q := (RX0, TX0, 8)) hKc hPc rfl rfl, hw_pay hPc hKc hDc⟩ rfl rfl hl.1 rfl (lv_room (Nat.le_of_ble_eq_true rfl)) dL_copy_3 ⟨by decide, by decide⟩) hP hD hS hA rfl rfl (by decide) (by decide) (fun u9 H locs hw hP hD hS => ?_)
    obtain ⟨rg1, hrg1⟩ : ∃ z, z = u9 := ⟨_, rfl⟩
    rw [← hrg1] at hP hD hw
    have hP : va_P (dC, dI) vwCl [(h0, .inr (0, [.ref a1, .ref a2, .int tk, .int ob, .int co, .ref a3, .int rc, .ref a4])), (a1, .inl (c1, 300, .inr (.inl ce))), (a2, .inl (c2, 16, .inl rg1)), (a3, .inl (c3, 300, .inl re)), (a4, .inl (c4, 300, .inl np))] H := hP
    have hD : va_D A [(h0, .inr (0, [.ref a1, .ref a2, .int tk, .int ob, .int co, .ref a3, .int rc, .ref a4])), (a1, .inl (c1, 300, .inr (.inl ce))), (a2, .inl (c2, 16, .inl rg1)), (a3, .inl (c3, 300, .inl re)), (a4, .inl (c4, 300, .inl np))] := hD
    refine lv_goto hx hb dL_copy_6 (tgt := 12) (by decide) ?_
    refine lv_iconst (v := 0) hx hb dL_copy_12 (by decide) ?_
    subst hQ9
    refine W.widen (k := 1) (n := 6) (by decide) (by decide) ?_
    exact W.iret (v := 0) hx hb hr (fun t ht hWm => ⟨⟨0, rg1, rfl, ⟨by rw [hk0]; exact nI_0.symm, by unfold hp_dc; rw [if_pos hk0, hp_at_n hi, nI_clamp (by omega)]; exact hw⟩, by rw [ht]; exact hP, va_K.moved hWm.alike hK, hD⟩, hS.F ht⟩) hS.2.2 dL_copy_13
  · skip
    have hPc := hP.sub (ws' := [(h0, .inr (0, [.ref a1, .ref a2, .int tk, .int ob, .int co, .ref a3, .int rc, .ref a4])), (a1, .inl (c1, 300, .inr (.inl ce))), (a2, .inl (c2, 16, .inl rg)), (a3, .inl (c3, 300, .inl re)), (a4, .inl (c4, 300, .inl np))]) [0, 1, 2, 3, 4] rfl
    have hDc := hD.sub (ws' := [(h0, .inr (0, [.ref a1, .ref a2, .int tk, .int ob, .int co, .ref a3, .int rc, .ref a4])), (a1, .inl (c1, 300, .inr (.inl ce))), (a2, .inl (c2, 16, .inl rg)), (a3, .inl (c3, 300, .inl re)), (a4, .inl (c4, 300, .inl np))]) [0, 1, 2, 3, 4] (by decide) rfl
    have hKc := hK.sub (tys' := [(c1, .long), (c2, .int), (c3, .int), (c4, .int)]) [0, 1, 2, 3] rfl
    refine hx_throwsP (wc := [(h0, .inr (0, [.ref a1, .ref a2, .int tk, .int ob, .int co, .ref a3, .int rc, .ref a4])), (a1, .inl (c1, 300, .inr (.inl ce))), (a2, .inl (c2, 16, .inl rg)), (a3, .inl (c3, 300, .inl re)), (a4, .inl (c4, 300, .inl np))]) (wr := []) [0, 1, 2, 3, 4] [] (vx_runV (As := [.int r, .int y]) (rest := []) ⟨hx, hb, hml, hown, hts⟩ (x_X0_copy l dC dI h0 a1 a2 a3 a4 c1 c2 c3 c4 ce rg tk ob co re rc np _ hl9 r y (Classical.byContradiction fun h9 => hk0 (hp_ck_n hk h9))) (cwV 2 hts gw_L_23 rfl rfl rfl ⟨rfl, by decide, by decide, by decide +kernel⟩ ⟨Nat.le_of_ble_eq_true rfl, Nat.le_of_ble_eq_true rfl⟩) ⟨hx_blind, va_recv (q0 := 0) (ci := 0) (q := (RX0, TX0, 8)) hKc hPc rfl rfl, hx_pay hPc hKc hDc hS hA hZ⟩ rfl rfl hl.1 rfl (lv_room (Nat.le_of_ble_eq_true rfl)) dL_copy_3 ⟨by decide, by decide⟩) hP hD hS hA rfl rfl (by decide) (by decide) (fun E ce9 q9 u9 H locs hb9 hP hD hS h1 h2 h3 => ?_)
    have hP : va_P (dC, dI) vwCl [(h0, .inr (0, [.ref a1, .ref a2, .int tk, .int ob, .int co, .ref a3, .int rc, .ref a4])), (a1, .inl (c1, 300, .inr (.inl ce))), (a2, .inl (c2, 16, .inl rg)), (a3, .inl (c3, 300, .inl re)), (a4, .inl (c4, 300, .inl np))] H := hP
    have hD : va_D A [(h0, .inr (0, [.ref a1, .ref a2, .int tk, .int ob, .int co, .ref a3, .int rc, .ref a4])), (a1, .inl (c1, 300, .inr (.inl ce))), (a2, .inl (c2, 16, .inl rg)), (a3, .inl (c3, 300, .inl re)), (a4, .inl (c4, 300, .inl np))] := hD
    have hE : E = hz_A := hb9
    subst hE
    refine vx_catch (own := RL) (name := hz_A) (E := hz_A) hown [] ⟨0, 6, 9, 13⟩ [] (by rw [hTab]; rfl) (fun z hz => nomatch hz) (by decide) (by decide) (hts _ bw_cl_L_13) (va_Nw.use rfl hZ.2.2.1.1) h1 h2 h3 ?_
    refine lv_astore_n hx hb dL_copy_9 rfl hl (by decide) rfl (fun ls hl => ?_)
    have hl : lv_has ls 4 [(3, .ref q9), (0, .ref h0), (1, .int r), (2, .int y)] := hl
    refine lv_iconst (v := 1) hx hb dL_copy_10 (by decide) ?_
    subst hQ9
    refine W.widen (k := 1) (n := 6) (by decide) (by decide) ?_
    exact W.iret (v := 1) hx hb hr (fun t ht hWm => ⟨⟨1, rg, rfl, ⟨by rw [hp_ck_y hk (Classical.byContradiction fun h9 => hk0 (hp_ck_n hk h9))]; decide, by unfold hp_dc; rw [if_neg hk0]; exact hC⟩, by rw [ht]; exact hP, va_K.moved hWm.alike hK, hD⟩, hS.F ht⟩) hS.2.2 dL_copy_11

set_option maxHeartbeats 4000000 in
set_option maxRecDepth 100000 in
theorem w_link (l : Launch) (dC : Nat → ClassId) (dI : Nat → Nat → Nat) (h0 a1 a2 a3 a4 : Nat) (c1 c2 c3 c4 : ClassId) (ce : Nat → Int64) (rg : Nat → Int32) (tk ob co : Int32) (re : Nat → Int32) (rc : Int32) (np : Nat → Int32) (sz : Nat) (hl9 : l.stackTraces = false) (M : hp_S) (hW : hp_W M) (hC : hp_C M ce rg tk ob co) (r i y : Int32) (k : Nat) (hk : hp_lk M (hp_bad r 16 ∨ hp_bad y 16) (hp_at M r) i (hp_k M (hp_at M r) = 1) k) : Met l yL_link wsL_link ({ frames := 9, cells := 1, slots := 6, locals := 165 }) (va_Pc [.ref h0, .int r, .int i, .int y] (hv_pre (dC, dI) vwCl [(c1, .long), (c2, .int), (c3, .int), (c4, .int)] [(h0, .inr (0, [.ref a1, .ref a2, .int tk, .int ob, .int co, .ref a3, .int rc, .ref a4])), (a1, .inl (c1, 300, .inr (.inl ce))), (a2, .inl (c2, 16, .inl rg)), (a3, .inl (c3, 300, .inl re)), (a4, .inl (c4, 300, .inl np))] sz)) (va_Qi (fun (x : Int32) (u : Nat → Int64) => x = nI k ∧ hp_C (hp_dl M r i y k) u rg tk ob co) (fun u t => hw_B (dC, dI) vwCl [(c1, .long), (c2, .int), (c3, .int), (c4, .int)] (va_A [(h0, .inr (0, [.ref a1, .ref a2, .int tk, .int ob, .int co, .ref a3, .int rc, .ref a4])), (a1, .inl (c1, 300, .inr (.inl ce))), (a2, .inl (c2, 16, .inl rg)), (a3, .inl (c3, 300, .inl re)), (a4, .inl (c4, 300, .inl np))] sz) ((fun u : Nat → Int64 => [(h0, .inr (0, [.ref a1, .ref a2, .int tk, .int ob, .int co, .ref a3, .int rc, .ref a4])), (a1, .inl (c1, 300, .inr (.inl u))), (a2, .inl (c2, 16, .inl rg)), (a3, .inl (c3, 300, .inl re)), (a4, .inl (c4, 300, .inl np))]) u) t) (va_A [(h0, .inr (0, [.ref a1, .ref a2, .int tk, .int ob, .int co, .ref a3, .int rc, .ref a4])), (a1, .inl (c1, 300, .inr (.inl ce))), (a2, .inl (c2, 16, .inl rg)), (a3, .inl (c3, 300, .inl re)), (a4, .inl (c4, 300, .inl np))] sz)) 1 6 (va_A [(h0, .inr (0, [.ref a1, .ref a2, .int tk, .int ob, .int co, .ref a3, .int rc, .ref a4])), (a1, .inl (c1, 300, .inr (.inl ce))), (a2, .inl (c2, 16, .inl rg)), (a3, .inl (c3, 300, .inl re)), (a4, .inl (c4, 300, .inl np))] sz) := by
  refine va_MetW (hh := [(0, 7, 10, 13), (0, 7, 14, 21)]) (cc := cL_link) (maxL := 5) (ret := some .int) (by decide) rfl ?_
  intro p e s m args below meth c s₁ B hml hv
  obtain ⟨hargs, ⟨hsz, hP, hK, hD0, hZ⟩, hG⟩ := hv
  have hx := B.exec
  have hb := B.bytes
  have hr := B.returns
  have hts : ∀ w ∈ wb, w.before _ s = true := fun w h => atoms_spec (ws := wsL_link) B.pre w (List.mem_cons_of_mem _ h)
  have hown : s.vm.findClass RL = some m.cls := findClass_of_methodNamed B.named
  have hlocks := B.notSynchronized
  have hTab := vx_table (x := yL_link) B (atoms_spec (ws := wsL_link) B.pre _ List.mem_cons_self)
  subst hsz
  have hD := hD0.self (sz := s.heap.size)
  generalize hAe : va_A [(h0, .inr (0, [.ref a1, .ref a2, .int tk, .int ob, .int co, .ref a3, .int rc, .ref a4])), (a1, .inl (c1, 300, .inr (.inl ce))), (a2, .inl (c2, 16, .inl rg)), (a3, .inl (c3, 300, .inl re)), (a4, .inl (c4, 300, .inl np))] s.heap.size = A at hD hZ ⊢
  have hA : ∀ q : Nat, s.heap.size ≤ q → A q := fun q h => by rw [← hAe]; exact Or.inr h
  have hS : va_S A s.heap s.heap [] := va_S.rf
  generalize hQ9 : MQ below (va_Qi (fun (x : Int32) (u : Nat → Int64) => x = nI k ∧ hp_C (hp_dl M r i y k) u rg tk ob co) (fun u t => hw_B (dC, dI) vwCl [(c1, .long), (c2, .int), (c3, .int), (c4, .int)] A ((fun u : Nat → Int64 => [(h0, .inr (0, [.ref a1, .ref a2, .int tk, .int ob, .int co, .ref a3, .int rc, .ref a4])), (a1, .inl (c1, 300, .inr (.inl u))), (a2, .inl (c2, 16, .inl rg)), (a3, .inl (c3, 300, .inl re)), (a4, .inl (c4, 300, .inl np))]) u) t) A) args s 1 6 A = Q9
  have hl := lv_entry ([.ref h0, .int r, .int i, .int y]) (n := 5) (Nat.le_of_ble_eq_true rfl)
  rw [show entryFrame m args 5 = _ from (congrArg (fun z => entryFrame m z 5) hargs).trans (lg_entry_eq m [.ref h0, .int r, .int i, .int y] 5)]
  generalize (lg_sl ([.ref h0, .int r, .int i, .int y]) ++ List.replicate (5 - (lg_sl ([.ref h0, .int r, .int i, .int y])).length) Slot.unset).toArray = ls at hl ⊢
  have hl : lv_has ls 5 [(0, .ref h0), (1, .int r), (2, .int i), (3, .int y)] := hl
  obtain ⟨H, hH⟩ : ∃ H, H = s.heap := ⟨_, rfl⟩
  rw [← hH] at hP
  have hS : va_S A s.heap H [] := by rw [hH]; exact hS
  rw [← hH]
  generalize ([] : List Loc) = locs at hS ⊢
  refine lv_aload_n hx hb dL_link_0 rfl (lv_at hl 0 rfl) ?_
  refine lv_iload_n hx hb dL_link_1 rfl (lv_at hl 1 rfl) ?_
  refine lv_iload_n hx hb dL_link_2 rfl (lv_at hl 2 rfl) ?_
  refine lv_iload_n hx hb dL_link_3 rfl (lv_at hl 3 rfl) ?_
  by_cases hk0 : k = 0
  · skip
    obtain ⟨hnb, h00, hok, hbi⟩ := hp_lk_0 hk hk0
    obtain ⟨j, hj, rfl⟩ := hp_ok' (fun h9 => hnb (Or.inl h9))
    obtain ⟨y1, hy1, rfl⟩ := hp_ok' (fun h9 => hnb (Or.inr h9))
    rw [hp_at_n hj] at h00 hok hbi
    have hoL := (hW.2.2.2.1 j hj).resolve_left h00
    have hw9 := hW.2.1 _ hoL
    obtain ⟨q, hq, rfl⟩ := hp_ok hbi (by omega)
    have hPc := hP.sub (ws' := [(h0, .inr (0, [.ref a1, .ref a2, .int tk, .int ob, .int co, .ref a3, .int rc, .ref a4])), (a1, .inl (c1, 300, .inr (.inl ce))), (a2, .inl (c2, 16, .inl rg)), (a3, .inl (c3, 300, .inl re)), (a4, .inl (c4, 300, .inl np))]) [0, 1, 2, 3, 4] rfl
    have hDc := hD.sub (ws' := [(h0, .inr (0, [.ref a1, .ref a2, .int tk, .int ob, .int co, .ref a3, .int rc, .ref a4])), (a1, .inl (c1, 300, .inr (.inl ce))), (a2, .inl (c2, 16, .inl rg)), (a3, .inl (c3, 300, .inl re)), (a4, .inl (c4, 300, .inl np))]) [0, 1, 2, 3, 4] (by decide) rfl
    have hKc := hK.sub (tys' := [(c1, .long), (c2, .int), (c3, .int), (c4, .int)]) [0, 1, 2, 3] rfl
    refine hw_callvP (wc := [(h0, .inr (0, [.ref a1, .ref a2, .int tk, .int ob, .int co, .ref a3, .int rc, .ref a4])), (a1, .inl (c1, 300, .inr (.inl ce))), (a2, .inl (c2, 16, .inl rg)), (a3, .inl (c3, 300, .inl re)), (a4, .inl (c4, 300, .inl np))]) (wr := []) [0, 1, 2, 3, 4] [] (va_runV (As := [.int (nI j), .int (nI q), .int (nI y1)]) (rest := []) ⟨hx, hb, hml, hown, hts⟩ (c_X0_link l dC dI h0 a1 a2 a3 a4 c1 c2 c3 c4 ce rg tk ob co re rc np _ M hW hC j q y1 hj hy1 h00 hok hq) (cwV 3 hts gw_L_31 rfl rfl rfl ⟨rfl, by decide, by decide, by decide +kernel⟩ ⟨Nat.le_of_ble_eq_true rfl, Nat.le_of_ble_eq_true rfl⟩) ⟨hw_blind, va_recv (q0 := 0) (ci := 0) (q := (RX0, TX0, 8)) hKc hPc rfl rfl, hw_pay hPc hKc hDc⟩ rfl rfl hl.1 rfl (lv_room (Nat.le_of_ble_eq_true rfl)) dL_link_4 ⟨by decide, by decide⟩) hP hD hS hA rfl rfl (by decide) (by decide) (fun u9 H locs hw hP hD hS => ?_)
    obtain ⟨ce1, hce1⟩ : ∃ z, z = u9 := ⟨_, rfl⟩
    rw [← hce1] at hP hD hw
    have hP : va_P (dC, dI) vwCl [(h0, .inr (0, [.ref a1, .ref a2, .int tk, .int ob, .int co, .ref a3, .int rc, .ref a4])), (a1, .inl (c1, 300, .inr (.inl ce1))), (a2, .inl (c2, 16, .inl rg)), (a3, .inl (c3, 300, .inl re)), (a4, .inl (c4, 300, .inl np))] H := hP
    have hD : va_D A [(h0, .inr (0, [.ref a1, .ref a2, .int tk, .int ob, .int co, .ref a3, .int rc, .ref a4])), (a1, .inl (c1, 300, .inr (.inl ce1))), (a2, .inl (c2, 16, .inl rg)), (a3, .inl (c3, 300, .inl re)), (a4, .inl (c4, 300, .inl np))] := hD
    refine lv_goto hx hb dL_link_7 (tgt := 18) (by decide) ?_
    refine lv_iconst (v := 0) hx hb dL_link_18 (by decide) ?_
    subst hQ9
    refine W.widen (k := 1) (n := 6) (by decide) (by decide) ?_
    exact W.iret (v := 0) hx hb hr (fun t ht hWm => ⟨⟨0, ce1, rfl, ⟨by rw [hk0]; exact nI_0.symm, by unfold hp_dl; rw [if_pos hk0, hp_at_n hj, hp_at_n hy1, nI_clamp (by omega)]; exact hw⟩, by rw [ht]; exact hP, va_K.moved hWm.alike hK, hD⟩, hS.F ht⟩) hS.2.2 dL_link_19
  · skip
    have hPc := hP.sub (ws' := [(h0, .inr (0, [.ref a1, .ref a2, .int tk, .int ob, .int co, .ref a3, .int rc, .ref a4])), (a1, .inl (c1, 300, .inr (.inl ce))), (a2, .inl (c2, 16, .inl rg)), (a3, .inl (c3, 300, .inl re)), (a4, .inl (c4, 300, .inl np))]) [0, 1, 2, 3, 4] rfl
    have hDc := hD.sub (ws' := [(h0, .inr (0, [.ref a1, .ref a2, .int tk, .int ob, .int co, .ref a3, .int rc, .ref a4])), (a1, .inl (c1, 300, .inr (.inl ce))), (a2, .inl (c2, 16, .inl rg)), (a3, .inl (c3, 300, .inl re)), (a4, .inl (c4, 300, .inl np))]) [0, 1, 2, 3, 4] (by decide) rfl
    have hKc := hK.sub (tys' := [(c1, .long), (c2, .int), (c3, .int), (c4, .int)]) [0, 1, 2, 3] rfl
    refine hx_throwsP (wc := [(h0, .inr (0, [.ref a1, .ref a2, .int tk, .int ob, .int co, .ref a3, .int rc, .ref a4])), (a1, .inl (c1, 300, .inr (.inl ce))), (a2, .inl (c2, 16, .inl rg)), (a3, .inl (c3, 300, .inl re)), (a4, .inl (c4, 300, .inl np))]) (wr := []) [0, 1, 2, 3, 4] [] (vx_runV (As := [.int r, .int i, .int y]) (rest := []) ⟨hx, hb, hml, hown, hts⟩ (x_X0_link l dC dI h0 a1 a2 a3 a4 c1 c2 c3 c4 ce rg tk ob co re rc np _ hl9 M hW hC r i y k hk hk0) (cwV 3 hts gw_L_31 rfl rfl rfl ⟨rfl, by decide, by decide, by decide +kernel⟩ ⟨Nat.le_of_ble_eq_true rfl, Nat.le_of_ble_eq_true rfl⟩) ⟨hx_blind, va_recv (q0 := 0) (ci := 0) (q := (RX0, TX0, 8)) hKc hPc rfl rfl, hx_pay hPc hKc hDc hS hA hZ⟩ rfl rfl hl.1 rfl (lv_room (Nat.le_of_ble_eq_true rfl)) dL_link_4 ⟨by decide, by decide⟩) hP hD hS hA rfl rfl (by decide) (by decide) (fun E ce9 q9 u9 H locs hb9 hP hD hS h1 h2 h3 => ?_)
    have hP : va_P (dC, dI) vwCl [(h0, .inr (0, [.ref a1, .ref a2, .int tk, .int ob, .int co, .ref a3, .int rc, .ref a4])), (a1, .inl (c1, 300, .inr (.inl ce))), (a2, .inl (c2, 16, .inl rg)), (a3, .inl (c3, 300, .inl re)), (a4, .inl (c4, 300, .inl np))] H := hP
    have hD : va_D A [(h0, .inr (0, [.ref a1, .ref a2, .int tk, .int ob, .int co, .ref a3, .int rc, .ref a4])), (a1, .inl (c1, 300, .inr (.inl ce))), (a2, .inl (c2, 16, .inl rg)), (a3, .inl (c3, 300, .inl re)), (a4, .inl (c4, 300, .inl np))] := hD
    rcases hb9 with ⟨hE, hk1⟩ | ⟨hE, hk1⟩
    · skip
      subst hE
      refine vx_catch (own := RL) (name := hz_A) (E := hz_A) hown [] ⟨0, 7, 10, 13⟩ [⟨0, 7, 14, 21⟩] (by rw [hTab]; rfl) (fun z hz => nomatch hz) (by decide) (by decide) (hts _ bw_cl_L_13) (va_Nw.use rfl hZ.2.2.1.1) h1 h2 h3 ?_
      refine lv_astore hx hb dL_link_10 hl (by decide) rfl (fun ls hl => ?_)
      have hl : lv_has ls 5 [(4, .ref q9), (0, .ref h0), (1, .int r), (2, .int i), (3, .int y)] := hl
      refine lv_iconst (v := 1) hx hb dL_link_12 (by decide) ?_
      subst hQ9
      refine W.widen (k := 1) (n := 6) (by decide) (by decide) ?_
      exact W.iret (v := 1) hx hb hr (fun t ht hWm => ⟨⟨1, ce, rfl, ⟨by rw [hk1]; decide, by unfold hp_dl; rw [if_neg hk0]; exact hC⟩, by rw [ht]; exact hP, va_K.moved hWm.alike hK, hD⟩, hS.F ht⟩) hS.2.2 dL_link_13
    · skip
      subst hE
      refine vx_catch (own := RL) (name := hz_N) (E := hz_N) hown [⟨0, 7, 10, 13⟩] ⟨0, 7, 14, 21⟩ [] (by rw [hTab]; rfl) (fun z hz => by
          simp only [List.mem_cons, List.not_mem_nil, or_false] at hz
          subst hz
          exact Or.inr ⟨by decide, _, hts _ bw_cl_L_13, hG.2.1⟩) (by decide) (by decide) (hts _ bw_cl_L_21) (va_Nw.use rfl hZ.2.2.1.2.2) h1 h2 h3 ?_
      refine lv_astore hx hb dL_link_14 hl (by decide) rfl (fun ls hl => ?_)
      have hl : lv_has ls 5 [(4, .ref q9), (0, .ref h0), (1, .int r), (2, .int i), (3, .int y)] := hl
      refine lv_iconst (v := 2) hx hb dL_link_16 (by decide) ?_
      subst hQ9
      refine W.widen (k := 1) (n := 6) (by decide) (by decide) ?_
      exact W.iret (v := 2) hx hb hr (fun t ht hWm => ⟨⟨2, ce, rfl, ⟨by rw [hk1]; decide, by unfold hp_dl; rw [if_neg hk0]; exact hC⟩, by rw [ht]; exact hP, va_K.moved hWm.alike hK, hD⟩, hS.F ht⟩) hS.2.2 dL_link_17

set_option maxHeartbeats 4000000 in
set_option maxRecDepth 100000 in
theorem w_follow (l : Launch) (dC : Nat → ClassId) (dI : Nat → Nat → Nat) (h0 a1 a2 a3 a4 : Nat) (c1 c2 c3 c4 : ClassId) (ce : Nat → Int64) (rg : Nat → Int32) (tk ob co : Int32) (re : Nat → Int32) (rc : Int32) (np : Nat → Int32) (sz : Nat) (hl9 : l.stackTraces = false) (M : hp_S) (hW : hp_W M) (hC : hp_C M ce rg tk ob co) (r y i : Int32) (k : Nat) (hk : hp_lk M (hp_bad r 16 ∨ hp_bad y 16) (hp_at M y) i (hp_k M (hp_at M y) ≠ 2) k) : Met l yL_follow wsL_follow ({ frames := 9, cells := 1, slots := 6, locals := 165 }) (va_Pc [.ref h0, .int r, .int y, .int i] (hv_pre (dC, dI) vwCl [(c1, .long), (c2, .int), (c3, .int), (c4, .int)] [(h0, .inr (0, [.ref a1, .ref a2, .int tk, .int ob, .int co, .ref a3, .int rc, .ref a4])), (a1, .inl (c1, 300, .inr (.inl ce))), (a2, .inl (c2, 16, .inl rg)), (a3, .inl (c3, 300, .inl re)), (a4, .inl (c4, 300, .inl np))] sz)) (va_Qi (fun (x : Int32) (u : Nat → Int32) => x = nI k ∧ hp_C (hp_df M r y i k) ce u tk ob co) (fun u t => hw_B (dC, dI) vwCl [(c1, .long), (c2, .int), (c3, .int), (c4, .int)] (va_A [(h0, .inr (0, [.ref a1, .ref a2, .int tk, .int ob, .int co, .ref a3, .int rc, .ref a4])), (a1, .inl (c1, 300, .inr (.inl ce))), (a2, .inl (c2, 16, .inl rg)), (a3, .inl (c3, 300, .inl re)), (a4, .inl (c4, 300, .inl np))] sz) ((fun u : Nat → Int32 => [(h0, .inr (0, [.ref a1, .ref a2, .int tk, .int ob, .int co, .ref a3, .int rc, .ref a4])), (a1, .inl (c1, 300, .inr (.inl ce))), (a2, .inl (c2, 16, .inl u)), (a3, .inl (c3, 300, .inl re)), (a4, .inl (c4, 300, .inl np))]) u) t) (va_A [(h0, .inr (0, [.ref a1, .ref a2, .int tk, .int ob, .int co, .ref a3, .int rc, .ref a4])), (a1, .inl (c1, 300, .inr (.inl ce))), (a2, .inl (c2, 16, .inl rg)), (a3, .inl (c3, 300, .inl re)), (a4, .inl (c4, 300, .inl np))] sz)) 1 6 (va_A [(h0, .inr (0, [.ref a1, .ref a2, .int tk, .int ob, .int co, .ref a3, .int rc, .ref a4])), (a1, .inl (c1, 300, .inr (.inl ce))), (a2, .inl (c2, 16, .inl rg)), (a3, .inl (c3, 300, .inl re)), (a4, .inl (c4, 300, .inl np))] sz) := by
  refine va_MetW (hh := [(0, 7, 10, 13), (0, 7, 14, 21)]) (cc := cL_follow) (maxL := 5) (ret := some .int) (by decide) rfl ?_
  intro p e s m args below meth c s₁ B hml hv
  obtain ⟨hargs, ⟨hsz, hP, hK, hD0, hZ⟩, hG⟩ := hv
  have hx := B.exec
  have hb := B.bytes
  have hr := B.returns
  have hts : ∀ w ∈ wb, w.before _ s = true := fun w h => atoms_spec (ws := wsL_follow) B.pre w (List.mem_cons_of_mem _ h)
  have hown : s.vm.findClass RL = some m.cls := findClass_of_methodNamed B.named
  have hlocks := B.notSynchronized
  have hTab := vx_table (x := yL_follow) B (atoms_spec (ws := wsL_follow) B.pre _ List.mem_cons_self)
  subst hsz
  have hD := hD0.self (sz := s.heap.size)
  generalize hAe : va_A [(h0, .inr (0, [.ref a1, .ref a2, .int tk, .int ob, .int co, .ref a3, .int rc, .ref a4])), (a1, .inl (c1, 300, .inr (.inl ce))), (a2, .inl (c2, 16, .inl rg)), (a3, .inl (c3, 300, .inl re)), (a4, .inl (c4, 300, .inl np))] s.heap.size = A at hD hZ ⊢
  have hA : ∀ q : Nat, s.heap.size ≤ q → A q := fun q h => by rw [← hAe]; exact Or.inr h
  have hS : va_S A s.heap s.heap [] := va_S.rf
  generalize hQ9 : MQ below (va_Qi (fun (x : Int32) (u : Nat → Int32) => x = nI k ∧ hp_C (hp_df M r y i k) ce u tk ob co) (fun u t => hw_B (dC, dI) vwCl [(c1, .long), (c2, .int), (c3, .int), (c4, .int)] A ((fun u : Nat → Int32 => [(h0, .inr (0, [.ref a1, .ref a2, .int tk, .int ob, .int co, .ref a3, .int rc, .ref a4])), (a1, .inl (c1, 300, .inr (.inl ce))), (a2, .inl (c2, 16, .inl u)), (a3, .inl (c3, 300, .inl re)), (a4, .inl (c4, 300, .inl np))]) u) t) A) args s 1 6 A = Q9
  have hl := lv_entry ([.ref h0, .int r, .int y, .int i]) (n := 5) (Nat.le_of_ble_eq_true rfl)
  rw [show entryFrame m args 5 = _ from (congrArg (fun z => entryFrame m z 5) hargs).trans (lg_entry_eq m [.ref h0, .int r, .int y, .int i] 5)]
  generalize (lg_sl ([.ref h0, .int r, .int y, .int i]) ++ List.replicate (5 - (lg_sl ([.ref h0, .int r, .int y, .int i])).length) Slot.unset).toArray = ls at hl ⊢
  have hl : lv_has ls 5 [(0, .ref h0), (1, .int r), (2, .int y), (3, .int i)] := hl
  obtain ⟨H, hH⟩ : ∃ H, H = s.heap := ⟨_, rfl⟩
  rw [← hH] at hP
  have hS : va_S A s.heap H [] := by rw [hH]; exact hS
  rw [← hH]
  generalize ([] : List Loc) = locs at hS ⊢
  refine lv_aload_n hx hb dL_follow_0 rfl (lv_at hl 0 rfl) ?_
  refine lv_iload_n hx hb dL_follow_1 rfl (lv_at hl 1 rfl) ?_
  refine lv_iload_n hx hb dL_follow_2 rfl (lv_at hl 2 rfl) ?_
  refine lv_iload_n hx hb dL_follow_3 rfl (lv_at hl 3 rfl) ?_
  by_cases hk0 : k = 0
  · skip
    obtain ⟨hnb, h00, hok, hbi⟩ := hp_lk_0 hk hk0
    obtain ⟨j, hj, rfl⟩ := hp_ok' (fun h9 => hnb (Or.inl h9))
    obtain ⟨y1, hy1, rfl⟩ := hp_ok' (fun h9 => hnb (Or.inr h9))
    rw [hp_at_n hy1] at h00 hok hbi
    have hoL := (hW.2.2.2.1 y1 hy1).resolve_left h00
    have hw9 := hW.2.1 _ hoL
    obtain ⟨q, hq, rfl⟩ := hp_ok hbi (by omega)
    have hPc := hP.sub (ws' := [(h0, .inr (0, [.ref a1, .ref a2, .int tk, .int ob, .int co, .ref a3, .int rc, .ref a4])), (a1, .inl (c1, 300, .inr (.inl ce))), (a2, .inl (c2, 16, .inl rg)), (a3, .inl (c3, 300, .inl re)), (a4, .inl (c4, 300, .inl np))]) [0, 1, 2, 3, 4] rfl
    have hDc := hD.sub (ws' := [(h0, .inr (0, [.ref a1, .ref a2, .int tk, .int ob, .int co, .ref a3, .int rc, .ref a4])), (a1, .inl (c1, 300, .inr (.inl ce))), (a2, .inl (c2, 16, .inl rg)), (a3, .inl (c3, 300, .inl re)), (a4, .inl (c4, 300, .inl np))]) [0, 1, 2, 3, 4] (by decide) rfl
    have hKc := hK.sub (tys' := [(c1, .long), (c2, .int), (c3, .int), (c4, .int)]) [0, 1, 2, 3] rfl
    refine hw_callvP (wc := [(h0, .inr (0, [.ref a1, .ref a2, .int tk, .int ob, .int co, .ref a3, .int rc, .ref a4])), (a1, .inl (c1, 300, .inr (.inl ce))), (a2, .inl (c2, 16, .inl rg)), (a3, .inl (c3, 300, .inl re)), (a4, .inl (c4, 300, .inl np))]) (wr := []) [0, 1, 2, 3, 4] [] (va_runV (As := [.int (nI j), .int (nI y1), .int (nI q)]) (rest := []) ⟨hx, hb, hml, hown, hts⟩ (c_X0_follow l dC dI h0 a1 a2 a3 a4 c1 c2 c3 c4 ce rg tk ob co re rc np _ M hW hC j y1 q hj hy1 h00 hok hq) (cwV 3 hts gw_L_35 rfl rfl rfl ⟨rfl, by decide, by decide, by decide +kernel⟩ ⟨Nat.le_of_ble_eq_true rfl, Nat.le_of_ble_eq_true rfl⟩) ⟨hw_blind, va_recv (q0 := 0) (ci := 0) (q := (RX0, TX0, 8)) hKc hPc rfl rfl, hw_pay hPc hKc hDc⟩ rfl rfl hl.1 rfl (lv_room (Nat.le_of_ble_eq_true rfl)) dL_follow_4 ⟨by decide, by decide⟩) hP hD hS hA rfl rfl (by decide) (by decide) (fun u9 H locs hw hP hD hS => ?_)
    obtain ⟨rg1, hrg1⟩ : ∃ z, z = u9 := ⟨_, rfl⟩
    rw [← hrg1] at hP hD hw
    have hP : va_P (dC, dI) vwCl [(h0, .inr (0, [.ref a1, .ref a2, .int tk, .int ob, .int co, .ref a3, .int rc, .ref a4])), (a1, .inl (c1, 300, .inr (.inl ce))), (a2, .inl (c2, 16, .inl rg1)), (a3, .inl (c3, 300, .inl re)), (a4, .inl (c4, 300, .inl np))] H := hP
    have hD : va_D A [(h0, .inr (0, [.ref a1, .ref a2, .int tk, .int ob, .int co, .ref a3, .int rc, .ref a4])), (a1, .inl (c1, 300, .inr (.inl ce))), (a2, .inl (c2, 16, .inl rg1)), (a3, .inl (c3, 300, .inl re)), (a4, .inl (c4, 300, .inl np))] := hD
    refine lv_goto hx hb dL_follow_7 (tgt := 18) (by decide) ?_
    refine lv_iconst (v := 0) hx hb dL_follow_18 (by decide) ?_
    subst hQ9
    refine W.widen (k := 1) (n := 6) (by decide) (by decide) ?_
    exact W.iret (v := 0) hx hb hr (fun t ht hWm => ⟨⟨0, rg1, rfl, ⟨by rw [hk0]; exact nI_0.symm, by unfold hp_df; rw [if_pos hk0, hp_at_n hy1, nI_clamp (by omega), nI_clamp (by omega)]; exact hw⟩, by rw [ht]; exact hP, va_K.moved hWm.alike hK, hD⟩, hS.F ht⟩) hS.2.2 dL_follow_19
  · skip
    have hPc := hP.sub (ws' := [(h0, .inr (0, [.ref a1, .ref a2, .int tk, .int ob, .int co, .ref a3, .int rc, .ref a4])), (a1, .inl (c1, 300, .inr (.inl ce))), (a2, .inl (c2, 16, .inl rg)), (a3, .inl (c3, 300, .inl re)), (a4, .inl (c4, 300, .inl np))]) [0, 1, 2, 3, 4] rfl
    have hDc := hD.sub (ws' := [(h0, .inr (0, [.ref a1, .ref a2, .int tk, .int ob, .int co, .ref a3, .int rc, .ref a4])), (a1, .inl (c1, 300, .inr (.inl ce))), (a2, .inl (c2, 16, .inl rg)), (a3, .inl (c3, 300, .inl re)), (a4, .inl (c4, 300, .inl np))]) [0, 1, 2, 3, 4] (by decide) rfl
    have hKc := hK.sub (tys' := [(c1, .long), (c2, .int), (c3, .int), (c4, .int)]) [0, 1, 2, 3] rfl
    refine hx_throwsP (wc := [(h0, .inr (0, [.ref a1, .ref a2, .int tk, .int ob, .int co, .ref a3, .int rc, .ref a4])), (a1, .inl (c1, 300, .inr (.inl ce))), (a2, .inl (c2, 16, .inl rg)), (a3, .inl (c3, 300, .inl re)), (a4, .inl (c4, 300, .inl np))]) (wr := []) [0, 1, 2, 3, 4] [] (vx_runV (As := [.int r, .int y, .int i]) (rest := []) ⟨hx, hb, hml, hown, hts⟩ (x_X0_follow l dC dI h0 a1 a2 a3 a4 c1 c2 c3 c4 ce rg tk ob co re rc np _ hl9 M hW hC r i y k hk hk0) (cwV 3 hts gw_L_35 rfl rfl rfl ⟨rfl, by decide, by decide, by decide +kernel⟩ ⟨Nat.le_of_ble_eq_true rfl, Nat.le_of_ble_eq_true rfl⟩) ⟨hx_blind, va_recv (q0 := 0) (ci := 0) (q := (RX0, TX0, 8)) hKc hPc rfl rfl, hx_pay hPc hKc hDc hS hA hZ⟩ rfl rfl hl.1 rfl (lv_room (Nat.le_of_ble_eq_true rfl)) dL_follow_4 ⟨by decide, by decide⟩) hP hD hS hA rfl rfl (by decide) (by decide) (fun E ce9 q9 u9 H locs hb9 hP hD hS h1 h2 h3 => ?_)
    have hP : va_P (dC, dI) vwCl [(h0, .inr (0, [.ref a1, .ref a2, .int tk, .int ob, .int co, .ref a3, .int rc, .ref a4])), (a1, .inl (c1, 300, .inr (.inl ce))), (a2, .inl (c2, 16, .inl rg)), (a3, .inl (c3, 300, .inl re)), (a4, .inl (c4, 300, .inl np))] H := hP
    have hD : va_D A [(h0, .inr (0, [.ref a1, .ref a2, .int tk, .int ob, .int co, .ref a3, .int rc, .ref a4])), (a1, .inl (c1, 300, .inr (.inl ce))), (a2, .inl (c2, 16, .inl rg)), (a3, .inl (c3, 300, .inl re)), (a4, .inl (c4, 300, .inl np))] := hD
    rcases hb9 with ⟨hE, hk1⟩ | ⟨hE, hk1⟩
    · skip
      subst hE
      refine vx_catch (own := RL) (name := hz_A) (E := hz_A) hown [] ⟨0, 7, 10, 13⟩ [⟨0, 7, 14, 21⟩] (by rw [hTab]; rfl) (fun z hz => nomatch hz) (by decide) (by decide) (hts _ bw_cl_L_13) (va_Nw.use rfl hZ.2.2.1.1) h1 h2 h3 ?_
      refine lv_astore hx hb dL_follow_10 hl (by decide) rfl (fun ls hl => ?_)
      have hl : lv_has ls 5 [(4, .ref q9), (0, .ref h0), (1, .int r), (2, .int y), (3, .int i)] := hl
      refine lv_iconst (v := 1) hx hb dL_follow_12 (by decide) ?_
      subst hQ9
      refine W.widen (k := 1) (n := 6) (by decide) (by decide) ?_
      exact W.iret (v := 1) hx hb hr (fun t ht hWm => ⟨⟨1, rg, rfl, ⟨by rw [hk1]; decide, by unfold hp_df; rw [if_neg hk0]; exact hC⟩, by rw [ht]; exact hP, va_K.moved hWm.alike hK, hD⟩, hS.F ht⟩) hS.2.2 dL_follow_13
    · skip
      subst hE
      refine vx_catch (own := RL) (name := hz_N) (E := hz_N) hown [⟨0, 7, 10, 13⟩] ⟨0, 7, 14, 21⟩ [] (by rw [hTab]; rfl) (fun z hz => by
          simp only [List.mem_cons, List.not_mem_nil, or_false] at hz
          subst hz
          exact Or.inr ⟨by decide, _, hts _ bw_cl_L_13, hG.2.1⟩) (by decide) (by decide) (hts _ bw_cl_L_21) (va_Nw.use rfl hZ.2.2.1.2.2) h1 h2 h3 ?_
      refine lv_astore hx hb dL_follow_14 hl (by decide) rfl (fun ls hl => ?_)
      have hl : lv_has ls 5 [(4, .ref q9), (0, .ref h0), (1, .int r), (2, .int y), (3, .int i)] := hl
      refine lv_iconst (v := 2) hx hb dL_follow_16 (by decide) ?_
      subst hQ9
      refine W.widen (k := 1) (n := 6) (by decide) (by decide) ?_
      exact W.iret (v := 2) hx hb hr (fun t ht hWm => ⟨⟨2, rg, rfl, ⟨by rw [hk1]; decide, by unfold hp_df; rw [if_neg hk0]; exact hC⟩, by rw [ht]; exact hP, va_K.moved hWm.alike hK, hD⟩, hS.F ht⟩) hS.2.2 dL_follow_17

set_option maxHeartbeats 4000000 in
set_option maxRecDepth 100000 in
theorem w_put (l : Launch) (dC : Nat → ClassId) (dI : Nat → Nat → Nat) (h0 a1 a2 a3 a4 : Nat) (c1 c2 c3 c4 : ClassId) (ce : Nat → Int64) (rg : Nat → Int32) (tk ob co : Int32) (re : Nat → Int32) (rc : Int32) (np : Nat → Int32) (sz : Nat) (hl9 : l.stackTraces = false) (M : hp_S) (hW : hp_W M) (hC : hp_C M ce rg tk ob co) (r i : Int32) (k : Nat) (hk : hp_lk M (hp_bad r 16) (hp_at M r) i (hp_k M (hp_at M r) = 2) k) (v : Int64) : Met l yL_put wsL_put ({ frames := 10, cells := 1, slots := 6, locals := 190 }) (va_Pc [.ref h0, .int r, .int i, .long v] (hv_pre (dC, dI) vwCl [(c1, .long), (c2, .int), (c3, .int), (c4, .int)] [(h0, .inr (0, [.ref a1, .ref a2, .int tk, .int ob, .int co, .ref a3, .int rc, .ref a4])), (a1, .inl (c1, 300, .inr (.inl ce))), (a2, .inl (c2, 16, .inl rg)), (a3, .inl (c3, 300, .inl re)), (a4, .inl (c4, 300, .inl np))] sz)) (va_Qi (fun (x : Int32) (u : Nat → Int64) => x = nI k ∧ hp_C (hp_dp M r i v k) u rg tk ob co) (fun u t => hw_B (dC, dI) vwCl [(c1, .long), (c2, .int), (c3, .int), (c4, .int)] (va_A [(h0, .inr (0, [.ref a1, .ref a2, .int tk, .int ob, .int co, .ref a3, .int rc, .ref a4])), (a1, .inl (c1, 300, .inr (.inl ce))), (a2, .inl (c2, 16, .inl rg)), (a3, .inl (c3, 300, .inl re)), (a4, .inl (c4, 300, .inl np))] sz) ((fun u : Nat → Int64 => [(h0, .inr (0, [.ref a1, .ref a2, .int tk, .int ob, .int co, .ref a3, .int rc, .ref a4])), (a1, .inl (c1, 300, .inr (.inl u))), (a2, .inl (c2, 16, .inl rg)), (a3, .inl (c3, 300, .inl re)), (a4, .inl (c4, 300, .inl np))]) u) t) (va_A [(h0, .inr (0, [.ref a1, .ref a2, .int tk, .int ob, .int co, .ref a3, .int rc, .ref a4])), (a1, .inl (c1, 300, .inr (.inl ce))), (a2, .inl (c2, 16, .inl rg)), (a3, .inl (c3, 300, .inl re)), (a4, .inl (c4, 300, .inl np))] sz)) 1 6 (va_A [(h0, .inr (0, [.ref a1, .ref a2, .int tk, .int ob, .int co, .ref a3, .int rc, .ref a4])), (a1, .inl (c1, 300, .inr (.inl ce))), (a2, .inl (c2, 16, .inl rg)), (a3, .inl (c3, 300, .inl re)), (a4, .inl (c4, 300, .inl np))] sz) := by
  refine va_MetW (hh := [(0, 7, 10, 13), (0, 7, 14, 21)]) (cc := cL_put) (maxL := 6) (ret := some .int) (by decide) rfl ?_
  intro p e s m args below meth c s₁ B hml hv
  obtain ⟨hargs, ⟨hsz, hP, hK, hD0, hZ⟩, hG⟩ := hv
  have hx := B.exec
  have hb := B.bytes
  have hr := B.returns
  have hts : ∀ w ∈ wb, w.before _ s = true := fun w h => atoms_spec (ws := wsL_put) B.pre w (List.mem_cons_of_mem _ h)
  have hown : s.vm.findClass RL = some m.cls := findClass_of_methodNamed B.named
  have hlocks := B.notSynchronized
  have hTab := vx_table (x := yL_put) B (atoms_spec (ws := wsL_put) B.pre _ List.mem_cons_self)
  subst hsz
  have hD := hD0.self (sz := s.heap.size)
  generalize hAe : va_A [(h0, .inr (0, [.ref a1, .ref a2, .int tk, .int ob, .int co, .ref a3, .int rc, .ref a4])), (a1, .inl (c1, 300, .inr (.inl ce))), (a2, .inl (c2, 16, .inl rg)), (a3, .inl (c3, 300, .inl re)), (a4, .inl (c4, 300, .inl np))] s.heap.size = A at hD hZ ⊢
  have hA : ∀ q : Nat, s.heap.size ≤ q → A q := fun q h => by rw [← hAe]; exact Or.inr h
  have hS : va_S A s.heap s.heap [] := va_S.rf
  generalize hQ9 : MQ below (va_Qi (fun (x : Int32) (u : Nat → Int64) => x = nI k ∧ hp_C (hp_dp M r i v k) u rg tk ob co) (fun u t => hw_B (dC, dI) vwCl [(c1, .long), (c2, .int), (c3, .int), (c4, .int)] A ((fun u : Nat → Int64 => [(h0, .inr (0, [.ref a1, .ref a2, .int tk, .int ob, .int co, .ref a3, .int rc, .ref a4])), (a1, .inl (c1, 300, .inr (.inl u))), (a2, .inl (c2, 16, .inl rg)), (a3, .inl (c3, 300, .inl re)), (a4, .inl (c4, 300, .inl np))]) u) t) A) args s 1 6 A = Q9
  have hl := lv_entry ([.ref h0, .int r, .int i, .long v]) (n := 6) (Nat.le_of_ble_eq_true rfl)
  rw [show entryFrame m args 6 = _ from (congrArg (fun z => entryFrame m z 6) hargs).trans (lg_entry_eq m [.ref h0, .int r, .int i, .long v] 6)]
  generalize (lg_sl ([.ref h0, .int r, .int i, .long v]) ++ List.replicate (6 - (lg_sl ([.ref h0, .int r, .int i, .long v])).length) Slot.unset).toArray = ls at hl ⊢
  have hl : lv_has ls 6 [(0, .ref h0), (1, .int r), (2, .int i), (3, .long v)] := hl
  obtain ⟨H, hH⟩ : ∃ H, H = s.heap := ⟨_, rfl⟩
  rw [← hH] at hP
  have hS : va_S A s.heap H [] := by rw [hH]; exact hS
  rw [← hH]
  generalize ([] : List Loc) = locs at hS ⊢
  refine lv_aload_n hx hb dL_put_0 rfl (lv_at hl 0 rfl) ?_
  refine lv_iload_n hx hb dL_put_1 rfl (lv_at hl 1 rfl) ?_
  refine lv_iload_n hx hb dL_put_2 rfl (lv_at hl 2 rfl) ?_
  refine lv_lload_n hx hb dL_put_3 rfl (lv_at hl 3 rfl) ?_
  by_cases hk0 : k = 0
  · skip
    obtain ⟨hnb, h00, hok, hbi⟩ := hp_lk_0 hk hk0
    obtain ⟨j, hj, rfl⟩ := hp_ok' hnb
    rw [hp_at_n hj] at h00 hok hbi
    have hoL := (hW.2.2.2.1 j hj).resolve_left h00
    have hw9 := hW.2.1 _ hoL
    obtain ⟨q, hq, rfl⟩ := hp_ok hbi (by omega)
    have hPc := hP.sub (ws' := [(h0, .inr (0, [.ref a1, .ref a2, .int tk, .int ob, .int co, .ref a3, .int rc, .ref a4])), (a1, .inl (c1, 300, .inr (.inl ce))), (a2, .inl (c2, 16, .inl rg)), (a3, .inl (c3, 300, .inl re)), (a4, .inl (c4, 300, .inl np))]) [0, 1, 2, 3, 4] rfl
    have hDc := hD.sub (ws' := [(h0, .inr (0, [.ref a1, .ref a2, .int tk, .int ob, .int co, .ref a3, .int rc, .ref a4])), (a1, .inl (c1, 300, .inr (.inl ce))), (a2, .inl (c2, 16, .inl rg)), (a3, .inl (c3, 300, .inl re)), (a4, .inl (c4, 300, .inl np))]) [0, 1, 2, 3, 4] (by decide) rfl
    have hKc := hK.sub (tys' := [(c1, .long), (c2, .int), (c3, .int), (c4, .int)]) [0, 1, 2, 3] rfl
    refine hw_callvP (wc := [(h0, .inr (0, [.ref a1, .ref a2, .int tk, .int ob, .int co, .ref a3, .int rc, .ref a4])), (a1, .inl (c1, 300, .inr (.inl ce))), (a2, .inl (c2, 16, .inl rg)), (a3, .inl (c3, 300, .inl re)), (a4, .inl (c4, 300, .inl np))]) (wr := []) [0, 1, 2, 3, 4] [] (va_runV (As := [.int (nI j), .int (nI q), .long v]) (rest := []) ⟨hx, hb, hml, hown, hts⟩ (c_X0_put l dC dI h0 a1 a2 a3 a4 c1 c2 c3 c4 ce rg tk ob co re rc np _ M hW hC j q hj h00 hok hq v) (cwV 3 hts gw_L_38 rfl rfl rfl ⟨rfl, by decide, by decide, by decide +kernel⟩ ⟨Nat.le_of_ble_eq_true rfl, Nat.le_of_ble_eq_true rfl⟩) ⟨hw_blind, va_recv (q0 := 0) (ci := 0) (q := (RX0, TX0, 8)) hKc hPc rfl rfl, hw_pay hPc hKc hDc⟩ rfl rfl hl.1 rfl (lv_room (Nat.le_of_ble_eq_true rfl)) dL_put_4 ⟨by decide, by decide⟩) hP hD hS hA rfl rfl (by decide) (by decide) (fun u9 H locs hw hP hD hS => ?_)
    obtain ⟨ce1, hce1⟩ : ∃ z, z = u9 := ⟨_, rfl⟩
    rw [← hce1] at hP hD hw
    have hP : va_P (dC, dI) vwCl [(h0, .inr (0, [.ref a1, .ref a2, .int tk, .int ob, .int co, .ref a3, .int rc, .ref a4])), (a1, .inl (c1, 300, .inr (.inl ce1))), (a2, .inl (c2, 16, .inl rg)), (a3, .inl (c3, 300, .inl re)), (a4, .inl (c4, 300, .inl np))] H := hP
    have hD : va_D A [(h0, .inr (0, [.ref a1, .ref a2, .int tk, .int ob, .int co, .ref a3, .int rc, .ref a4])), (a1, .inl (c1, 300, .inr (.inl ce1))), (a2, .inl (c2, 16, .inl rg)), (a3, .inl (c3, 300, .inl re)), (a4, .inl (c4, 300, .inl np))] := hD
    refine lv_goto hx hb dL_put_7 (tgt := 18) (by decide) ?_
    refine lv_iconst (v := 0) hx hb dL_put_18 (by decide) ?_
    subst hQ9
    refine W.widen (k := 1) (n := 6) (by decide) (by decide) ?_
    exact W.iret (v := 0) hx hb hr (fun t ht hWm => ⟨⟨0, ce1, rfl, ⟨by rw [hk0]; exact nI_0.symm, by unfold hp_dp; rw [if_pos hk0, hp_at_n hj, nI_clamp (by omega)]; exact hw⟩, by rw [ht]; exact hP, va_K.moved hWm.alike hK, hD⟩, hS.F ht⟩) hS.2.2 dL_put_19
  · skip
    have hPc := hP.sub (ws' := [(h0, .inr (0, [.ref a1, .ref a2, .int tk, .int ob, .int co, .ref a3, .int rc, .ref a4])), (a1, .inl (c1, 300, .inr (.inl ce))), (a2, .inl (c2, 16, .inl rg)), (a3, .inl (c3, 300, .inl re)), (a4, .inl (c4, 300, .inl np))]) [0, 1, 2, 3, 4] rfl
    have hDc := hD.sub (ws' := [(h0, .inr (0, [.ref a1, .ref a2, .int tk, .int ob, .int co, .ref a3, .int rc, .ref a4])), (a1, .inl (c1, 300, .inr (.inl ce))), (a2, .inl (c2, 16, .inl rg)), (a3, .inl (c3, 300, .inl re)), (a4, .inl (c4, 300, .inl np))]) [0, 1, 2, 3, 4] (by decide) rfl
    have hKc := hK.sub (tys' := [(c1, .long), (c2, .int), (c3, .int), (c4, .int)]) [0, 1, 2, 3] rfl
    refine hx_throwsP (wc := [(h0, .inr (0, [.ref a1, .ref a2, .int tk, .int ob, .int co, .ref a3, .int rc, .ref a4])), (a1, .inl (c1, 300, .inr (.inl ce))), (a2, .inl (c2, 16, .inl rg)), (a3, .inl (c3, 300, .inl re)), (a4, .inl (c4, 300, .inl np))]) (wr := []) [0, 1, 2, 3, 4] [] (vx_runV (As := [.int r, .int i, .long v]) (rest := []) ⟨hx, hb, hml, hown, hts⟩ (x_X0_put l dC dI h0 a1 a2 a3 a4 c1 c2 c3 c4 ce rg tk ob co re rc np _ hl9 M hW hC r i k hk hk0 v) (cwV 3 hts gw_L_38 rfl rfl rfl ⟨rfl, by decide, by decide, by decide +kernel⟩ ⟨Nat.le_of_ble_eq_true rfl, Nat.le_of_ble_eq_true rfl⟩) ⟨hx_blind, va_recv (q0 := 0) (ci := 0) (q := (RX0, TX0, 8)) hKc hPc rfl rfl, hx_pay hPc hKc hDc hS hA hZ⟩ rfl rfl hl.1 rfl (lv_room (Nat.le_of_ble_eq_true rfl)) dL_put_4 ⟨by decide, by decide⟩) hP hD hS hA rfl rfl (by decide) (by decide) (fun E ce9 q9 u9 H locs hb9 hP hD hS h1 h2 h3 => ?_)
    have hP : va_P (dC, dI) vwCl [(h0, .inr (0, [.ref a1, .ref a2, .int tk, .int ob, .int co, .ref a3, .int rc, .ref a4])), (a1, .inl (c1, 300, .inr (.inl ce))), (a2, .inl (c2, 16, .inl rg)), (a3, .inl (c3, 300, .inl re)), (a4, .inl (c4, 300, .inl np))] H := hP
    have hD : va_D A [(h0, .inr (0, [.ref a1, .ref a2, .int tk, .int ob, .int co, .ref a3, .int rc, .ref a4])), (a1, .inl (c1, 300, .inr (.inl ce))), (a2, .inl (c2, 16, .inl rg)), (a3, .inl (c3, 300, .inl re)), (a4, .inl (c4, 300, .inl np))] := hD
    rcases hb9 with ⟨hE, hk1⟩ | ⟨hE, hk1⟩
    · skip
      subst hE
      refine vx_catch (own := RL) (name := hz_A) (E := hz_A) hown [] ⟨0, 7, 10, 13⟩ [⟨0, 7, 14, 21⟩] (by rw [hTab]; rfl) (fun z hz => nomatch hz) (by decide) (by decide) (hts _ bw_cl_L_13) (va_Nw.use rfl hZ.2.2.1.1) h1 h2 h3 ?_
      refine lv_astore hx hb dL_put_10 hl (by decide) rfl (fun ls hl => ?_)
      have hl : lv_has ls 6 [(5, .ref q9), (0, .ref h0), (1, .int r), (2, .int i), (3, .long v)] := hl
      refine lv_iconst (v := 1) hx hb dL_put_12 (by decide) ?_
      subst hQ9
      refine W.widen (k := 1) (n := 6) (by decide) (by decide) ?_
      exact W.iret (v := 1) hx hb hr (fun t ht hWm => ⟨⟨1, ce, rfl, ⟨by rw [hk1]; decide, by unfold hp_dp; rw [if_neg hk0]; exact hC⟩, by rw [ht]; exact hP, va_K.moved hWm.alike hK, hD⟩, hS.F ht⟩) hS.2.2 dL_put_13
    · skip
      subst hE
      refine vx_catch (own := RL) (name := hz_N) (E := hz_N) hown [⟨0, 7, 10, 13⟩] ⟨0, 7, 14, 21⟩ [] (by rw [hTab]; rfl) (fun z hz => by
          simp only [List.mem_cons, List.not_mem_nil, or_false] at hz
          subst hz
          exact Or.inr ⟨by decide, _, hts _ bw_cl_L_13, hG.2.1⟩) (by decide) (by decide) (hts _ bw_cl_L_21) (va_Nw.use rfl hZ.2.2.1.2.2) h1 h2 h3 ?_
      refine lv_astore hx hb dL_put_14 hl (by decide) rfl (fun ls hl => ?_)
      have hl : lv_has ls 6 [(5, .ref q9), (0, .ref h0), (1, .int r), (2, .int i), (3, .long v)] := hl
      refine lv_iconst (v := 2) hx hb dL_put_16 (by decide) ?_
      subst hQ9
      refine W.widen (k := 1) (n := 6) (by decide) (by decide) ?_
      exact W.iret (v := 2) hx hb hr (fun t ht hWm => ⟨⟨2, ce, rfl, ⟨by rw [hk1]; decide, by unfold hp_dp; rw [if_neg hk0]; exact hC⟩, by rw [ht]; exact hP, va_K.moved hWm.alike hK, hD⟩, hS.F ht⟩) hS.2.2 dL_put_17
