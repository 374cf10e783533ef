set_option maxHeartbeats 4000000 in
set_option maxRecDepth 100000 in
theorem w_state (l : Launch) (dC : Nat → ClassId) (dI : Nat → Nat → Nat) (h0 a1 a2 a3 a4 : Nat) (c1 c2 c3 c4 : ClassId) (oa : Nat) (oc : ClassId) (ce : Nat → Int64) (rg : Nat → Int32) (tk ob co : Int32) (re : Nat → Int32) (rc : Int32) (np : Nat → Int32) (sz : Nat) (fo : Nat → Int64) (hl9 : l.stackTraces = false) (M : hp_S) (hW : hp_W M) (hC : hp_C M ce rg tk ob co) (r y : Int32) (k : Nat) (hk : hp_ck (hp_bad r 16 ∨ hp_bad y 3) k) : Met l yL_state wsL_state ({ frames := 9, cells := 1, slots := 6, locals := 165 }) (va_Pc [.ref h0, .int r, .int y, .ref oa] (hv_pre (dC, dI) vwCl [(oc, .long), (c1, .long), (c2, .int), (c3, .int), (c4, .int)] [(oa, .inl (oc, 1, .inr (.inl fo))), (h0, .inr (0, [.ref a1, .ref a2, .int tk, .int ob, .int co, .ref a3, .int rc, .ref a4])), (a1, .inl (c1, 300, .inr (.inl ce))), (a2, .inl (c2, 16, .inl rg)), (a3, .inl (c3, 300, .inl re)), (a4, .inl (c4, 300, .inl np))] sz)) (va_Qi (fun (x : Int32) (u : Nat → Int64) => x = nI k ∧ (k = 0 → u 0 = (hp_st M (hp_at M r) y.toNatClampNeg).toInt64)) (fun u t => hw_B (dC, dI) vwCl [(oc, .long), (c1, .long), (c2, .int), (c3, .int), (c4, .int)] (va_A [(oa, .inl (oc, 1, .inr (.inl fo))), (h0, .inr (0, [.ref a1, .ref a2, .int tk, .int ob, .int co, .ref a3, .int rc, .ref a4])), (a1, .inl (c1, 300, .inr (.inl ce))), (a2, .inl (c2, 16, .inl rg)), (a3, .inl (c3, 300, .inl re)), (a4, .inl (c4, 300, .inl np))] sz) ((fun u : Nat → Int64 => [(oa, .inl (oc, 1, .inr (.inl u))), (h0, .inr (0, [.ref a1, .ref a2, .int tk, .int ob, .int co, .ref a3, .int rc, .ref a4])), (a1, .inl (c1, 300, .inr (.inl ce))), (a2, .inl (c2, 16, .inl rg)), (a3, .inl (c3, 300, .inl re)), (a4, .inl (c4, 300, .inl np))]) u) t) (va_A [(oa, .inl (oc, 1, .inr (.inl fo))), (h0, .inr (0, [.ref a1, .ref a2, .int tk, .int ob, .int co, .ref a3, .int rc, .ref a4])), (a1, .inl (c1, 300, .inr (.inl ce))), (a2, .inl (c2, 16, .inl rg)), (a3, .inl (c3, 300, .inl re)), (a4, .inl (c4, 300, .inl np))] sz)) 1 6 (va_A [(oa, .inl (oc, 1, .inr (.inl fo))), (h0, .inr (0, [.ref a1, .ref a2, .int tk, .int ob, .int co, .ref a3, .int rc, .ref a4])), (a1, .inl (c1, 300, .inr (.inl ce))), (a2, .inl (c2, 16, .inl rg)), (a3, .inl (c3, 300, .inl re)), (a4, .inl (c4, 300, .inl np))] sz) := by
  refine va_MetW (hh := [(0, 10, 13, 13)]) (cc := cL_state) (maxL := 5) (ret := some .int) (by decide) rfl ?_
  intro p e s m args below meth c s₁ B hml hv
  obtain ⟨hargs, ⟨hsz, hP, hK, hD0, hZ⟩, hG⟩ := hv
  have hx := B.exec
  have hb := B.bytes
  have hr := B.returns
  have hts : ∀ w ∈ wb, w.before _ s = true := fun w h => atoms_spec (ws := wsL_state) B.pre w (List.mem_cons_of_mem _ h)
  have hown : s.vm.findClass RL = some m.cls := findClass_of_methodNamed B.named
  have hlocks := B.notSynchronized
  have hTab := vx_table (x := yL_state) B (atoms_spec (ws := wsL_state) B.pre _ List.mem_cons_self)
  subst hsz
  have hD := hD0.self (sz := s.heap.size)
  generalize hAe : va_A [(oa, .inl (oc, 1, .inr (.inl fo))), (h0, .inr (0, [.ref a1, .ref a2, .int tk, .int ob, .int co, .ref a3, .int rc, .ref a4])), (a1, .inl (c1, 300, .inr (.inl ce))), (a2, .inl (c2, 16, .inl rg)), (a3, .inl (c3, 300, .inl re)), (a4, .inl (c4, 300, .inl np))] s.heap.size = A at hD hZ ⊢
  have hA : ∀ q : Nat, s.heap.size ≤ q → A q := fun q h => by rw [← hAe]; exact Or.inr h
  have hS : va_S A s.heap s.heap [] := va_S.rf
  generalize hQ9 : MQ below (va_Qi (fun (x : Int32) (u : Nat → Int64) => x = nI k ∧ (k = 0 → u 0 = (hp_st M (hp_at M r) y.toNatClampNeg).toInt64)) (fun u t => hw_B (dC, dI) vwCl [(oc, .long), (c1, .long), (c2, .int), (c3, .int), (c4, .int)] A ((fun u : Nat → Int64 => [(oa, .inl (oc, 1, .inr (.inl u))), (h0, .inr (0, [.ref a1, .ref a2, .int tk, .int ob, .int co, .ref a3, .int rc, .ref a4])), (a1, .inl (c1, 300, .inr (.inl ce))), (a2, .inl (c2, 16, .inl rg)), (a3, .inl (c3, 300, .inl re)), (a4, .inl (c4, 300, .inl np))]) u) t) A) args s 1 6 A = Q9
  have hl := lv_entry ([.ref h0, .int r, .int y, .ref oa]) (n := 5) (Nat.le_of_ble_eq_true rfl)
  rw [show entryFrame m args 5 = _ from (congrArg (fun z => entryFrame m z 5) hargs).trans (lg_entry_eq m [.ref h0, .int r, .int y, .ref oa] 5)]
  generalize (lg_sl ([.ref h0, .int r, .int y, .ref oa]) ++ List.replicate (5 - (lg_sl ([.ref h0, .int r, .int y, .ref oa])).length) Slot.unset).toArray = ls at hl ⊢
  have hl : lv_has ls 5 [(0, .ref h0), (1, .int r), (2, .int y), (3, .ref oa)] := hl
  obtain ⟨H, hH⟩ : ∃ H, H = s.heap := ⟨_, rfl⟩
  rw [← hH] at hP
  have hS : va_S A s.heap H [] := by rw [hH]; exact hS
  rw [← hH]
  generalize ([] : List Loc) = locs at hS ⊢
  refine lv_aload_n hx hb dL_state_0 rfl (lv_at hl 3 rfl) ?_
  refine lv_iconst (v := 0) hx hb dL_state_1 (by decide) ?_
  refine lv_aload_n hx hb dL_state_2 rfl (lv_at hl 0 rfl) ?_
  refine lv_iload_n hx hb dL_state_3 rfl (lv_at hl 1 rfl) ?_
  refine lv_iload_n hx hb dL_state_4 rfl (lv_at hl 2 rfl) ?_
  by_cases hk0 : k = 0
  · skip
    have hnb := hp_ck_0 hk hk0
    obtain ⟨j, hj, rfl⟩ := hp_ok' (fun h9 => hnb (Or.inl h9))
    obtain ⟨q, hq, rfl⟩ := hp_w3 (fun h9 => hnb (Or.inr h9))
    have hPc := hP.sub (ws' := [(h0, .inr (0, [.ref a1, .ref a2, .int tk, .int ob, .int co, .ref a3, .int rc, .ref a4])), (a1, .inl (c1, 300, .inr (.inl ce))), (a2, .inl (c2, 16, .inl rg)), (a3, .inl (c3, 300, .inl re)), (a4, .inl (c4, 300, .inl np))]) [1, 2, 3, 4, 5] rfl
    have hDc := hD.sub (ws' := [(h0, .inr (0, [.ref a1, .ref a2, .int tk, .int ob, .int co, .ref a3, .int rc, .ref a4])), (a1, .inl (c1, 300, .inr (.inl ce))), (a2, .inl (c2, 16, .inl rg)), (a3, .inl (c3, 300, .inl re)), (a4, .inl (c4, 300, .inl np))]) [1, 2, 3, 4, 5] (by decide) rfl
    have hKc := hK.sub (tys' := [(c1, .long), (c2, .int), (c3, .int), (c4, .int)]) [1, 2, 3, 4] rfl
    refine W.callR (W.runV (As := [.int (nI j), .int (nI q)]) (rest := [.int 0, .ref oa]) ⟨hx, hb, hml, hown, hts⟩ (c_X0_state l dC dI h0 a1 a2 a3 a4 c1 c2 c3 c4 ce rg tk ob co re rc np _ M hW hC j q hj hq) (cwV 2 hts gw_L_46 rfl rfl rfl ⟨rfl, by decide, by decide, by decide +kernel⟩ ⟨Nat.le_of_ble_eq_true rfl, Nat.le_of_ble_eq_true rfl⟩) ⟨hw_blind, va_recv (q0 := 0) (ci := 0) (q := (RX0, TX0, 8)) hKc hPc rfl rfl, hw_pay hPc hKc hDc⟩ rfl rfl hl.1 rfl (lv_room (Nat.le_of_ble_eq_true rfl)) dL_state_5 ⟨by decide, by decide⟩) ?_
    refine W.eq (g2 := F0 m 8 ls [.int (hp_st M (hp_r M j) q), .int 0, .ref oa]) rfl ?_
    refine lv_i2l hx hb dL_state_8 rfl ?_
    refine hw_last (j := 0) hx hb hK hP hD hS 0 0 rfl rfl (nI_0.symm) (by decide) (by decide) dL_state_9 (fun H locs hP hD hS => ?_)
    have hP : va_P (dC, dI) vwCl [(oa, .inl (oc, 1, .inr (.inl (vp_updL fo 0 ((hp_st M (hp_r M j) q).toInt64))))), (h0, .inr (0, [.ref a1, .ref a2, .int tk, .int ob, .int co, .ref a3, .int rc, .ref a4])), (a1, .inl (c1, 300, .inr (.inl ce))), (a2, .inl (c2, 16, .inl rg)), (a3, .inl (c3, 300, .inl re)), (a4, .inl (c4, 300, .inl np))] H := hP
    have hD : va_D A [(oa, .inl (oc, 1, .inr (.inl (vp_updL fo 0 ((hp_st M (hp_r M j) q).toInt64))))), (h0, .inr (0, [.ref a1, .ref a2, .int tk, .int ob, .int co, .ref a3, .int rc, .ref a4])), (a1, .inl (c1, 300, .inr (.inl ce))), (a2, .inl (c2, 16, .inl rg)), (a3, .inl (c3, 300, .inl re)), (a4, .inl (c4, 300, .inl np))] := hD
    refine lv_goto hx hb dL_state_10 (tgt := 17) (by decide) ?_
    refine lv_iconst (v := 0) hx hb dL_state_17 (by decide) ?_
    subst hQ9
    refine W.widen (k := 1) (n := 6) (by decide) (by decide) ?_
    exact W.iret (v := 0) hx hb hr (fun t ht hWm => ⟨⟨0, (vp_updL fo 0 ((hp_st M (hp_r M j) q).toInt64)), rfl, ⟨by rw [hk0]; exact nI_0.symm, fun _ => by rw [pk_uLs, hp_at_n hj, nI_clamp (by omega)]⟩, by rw [ht]; exact hP, va_K.moved hWm.alike hK, hD⟩, hS.F ht⟩) hS.2.2 dL_state_18
  · skip
    have hPc := hP.sub (ws' := [(h0, .inr (0, [.ref a1, .ref a2, .int tk, .int ob, .int co, .ref a3, .int rc, .ref a4])), (a1, .inl (c1, 300, .inr (.inl ce))), (a2, .inl (c2, 16, .inl rg)), (a3, .inl (c3, 300, .inl re)), (a4, .inl (c4, 300, .inl np))]) [1, 2, 3, 4, 5] rfl
    have hDc := hD.sub (ws' := [(h0, .inr (0, [.ref a1, .ref a2, .int tk, .int ob, .int co, .ref a3, .int rc, .ref a4])), (a1, .inl (c1, 300, .inr (.inl ce))), (a2, .inl (c2, 16, .inl rg)), (a3, .inl (c3, 300, .inl re)), (a4, .inl (c4, 300, .inl np))]) [1, 2, 3, 4, 5] (by decide) rfl
    have hKc := hK.sub (tys' := [(c1, .long), (c2, .int), (c3, .int), (c4, .int)]) [1, 2, 3, 4] rfl
    refine hx_throwsP (wc := [(h0, .inr (0, [.ref a1, .ref a2, .int tk, .int ob, .int co, .ref a3, .int rc, .ref a4])), (a1, .inl (c1, 300, .inr (.inl ce))), (a2, .inl (c2, 16, .inl rg)), (a3, .inl (c3, 300, .inl re)), (a4, .inl (c4, 300, .inl np))]) (wr := [(oa, .inl (oc, 1, .inr (.inl fo)))]) [1, 2, 3, 4, 5] [0] (vx_runV (As := [.int r, .int y]) (rest := [.int 0, .ref oa]) ⟨hx, hb, hml, hown, hts⟩ (x_X0_state l dC dI h0 a1 a2 a3 a4 c1 c2 c3 c4 ce rg tk ob co re rc np _ hl9 r y (Classical.byContradiction fun h9 => hk0 (hp_ck_n hk h9))) (cwV 2 hts gw_L_46 rfl rfl rfl ⟨rfl, by decide, by decide, by decide +kernel⟩ ⟨Nat.le_of_ble_eq_true rfl, Nat.le_of_ble_eq_true rfl⟩) ⟨hx_blind, va_recv (q0 := 0) (ci := 0) (q := (RX0, TX0, 8)) hKc hPc rfl rfl, hx_pay hPc hKc hDc hS hA hZ⟩ rfl rfl hl.1 rfl (lv_room (Nat.le_of_ble_eq_true rfl)) dL_state_5 ⟨by decide, by decide⟩) hP hD hS hA rfl rfl (by decide) (by decide) (fun E ce9 q9 u9 H locs hb9 hP hD hS h1 h2 h3 => ?_)
    have hP : va_P (dC, dI) vwCl [(oa, .inl (oc, 1, .inr (.inl fo))), (h0, .inr (0, [.ref a1, .ref a2, .int tk, .int ob, .int co, .ref a3, .int rc, .ref a4])), (a1, .inl (c1, 300, .inr (.inl ce))), (a2, .inl (c2, 16, .inl rg)), (a3, .inl (c3, 300, .inl re)), (a4, .inl (c4, 300, .inl np))] H := hP
    have hD : va_D A [(oa, .inl (oc, 1, .inr (.inl fo))), (h0, .inr (0, [.ref a1, .ref a2, .int tk, .int ob, .int co, .ref a3, .int rc, .ref a4])), (a1, .inl (c1, 300, .inr (.inl ce))), (a2, .inl (c2, 16, .inl rg)), (a3, .inl (c3, 300, .inl re)), (a4, .inl (c4, 300, .inl np))] := hD
    have hE : E = hz_A := hb9
    subst hE
    refine vx_catch (own := RL) (name := hz_A) (E := hz_A) hown [] ⟨0, 10, 13, 13⟩ [] (by rw [hTab]; rfl) (fun z hz => nomatch hz) (by decide) (by decide) (hts _ bw_cl_L_13) (va_Nw.use rfl hZ.2.2.1.1) h1 h2 h3 ?_
    refine lv_astore hx hb dL_state_13 hl (by decide) rfl (fun ls hl => ?_)
    have hl : lv_has ls 5 [(4, .ref q9), (0, .ref h0), (1, .int r), (2, .int y), (3, .ref oa)] := hl
    refine lv_iconst (v := 1) hx hb dL_state_15 (by decide) ?_
    subst hQ9
    refine W.widen (k := 1) (n := 6) (by decide) (by decide) ?_
    exact W.iret (v := 1) hx hb hr (fun t ht hWm => ⟨⟨1, fo, rfl, ⟨by rw [hp_ck_y hk (Classical.byContradiction fun h9 => hk0 (hp_ck_n hk h9))]; decide, fun h9 => absurd h9 hk0⟩, by rw [ht]; exact hP, va_K.moved hWm.alike hK, hD⟩, hS.F ht⟩) hS.2.2 dL_state_16

set_option maxHeartbeats 4000000 in
set_option maxRecDepth 100000 in
theorem w_get (l : Launch) (dC : Nat → ClassId) (dI : Nat → Nat → Nat) (h0 a1 a2 a3 a4 : Nat) (c1 c2 c3 c4 : ClassId) (oa : Nat) (oc : ClassId) (ce : Nat → Int64) (rg : Nat → Int32) (tk ob co : Int32) (re : Nat → Int32) (rc : Int32) (np : Nat → Int32) (sz : Nat) (fo : Nat → Int64) (hl9 : l.stackTraces = false) (M : hp_S) (hW : hp_W M) (hC : hp_C M ce rg tk ob co) (r i : Int32) (k : Nat) (hk : hp_lk M (hp_bad r 16) (hp_at M r) i (hp_k M (hp_at M r) = 2) k) : Met l yL_get wsL_get ({ frames := 10, cells := 1, slots := 6, locals := 190 }) (va_Pc [.ref h0, .int r, .int i, .ref oa] (hv_pre (dC, dI) vwCl [(oc, .long), (c1, .long), (c2, .int), (c3, .int), (c4, .int)] [(oa, .inl (oc, 1, .inr (.inl fo))), (h0, .inr (0, [.ref a1, .ref a2, .int tk, .int ob, .int co, .ref a3, .int rc, .ref a4])), (a1, .inl (c1, 300, .inr (.inl ce))), (a2, .inl (c2, 16, .inl rg)), (a3, .inl (c3, 300, .inl re)), (a4, .inl (c4, 300, .inl np))] sz)) (va_Qi (fun (x : Int32) (u : Nat → Int64) => x = nI k ∧ (k = 0 → u 0 = hp_n M (hp_at M r) i.toNatClampNeg)) (fun u t => hw_B (dC, dI) vwCl [(oc, .long), (c1, .long), (c2, .int), (c3, .int), (c4, .int)] (va_A [(oa, .inl (oc, 1, .inr (.inl fo))), (h0, .inr (0, [.ref a1, .ref a2, .int tk, .int ob, .int co, .ref a3, .int rc, .ref a4])), (a1, .inl (c1, 300, .inr (.inl ce))), (a2, .inl (c2, 16, .inl rg)), (a3, .inl (c3, 300, .inl re)), (a4, .inl (c4, 300, .inl np))] sz) ((fun u : Nat → Int64 => [(oa, .inl (oc, 1, .inr (.inl u))), (h0, .inr (0, [.ref a1, .ref a2, .int tk, .int ob, .int co, .ref a3, .int rc, .ref a4])), (a1, .inl (c1, 300, .inr (.inl ce))), (a2, .inl (c2, 16, .inl rg)), (a3, .inl (c3, 300, .inl re)), (a4, .inl (c4, 300, .inl np))]) u) t) (va_A [(oa, .inl (oc, 1, .inr (.inl fo))), (h0, .inr (0, [.ref a1, .ref a2, .int tk, .int ob, .int co, .ref a3, .int rc, .ref a4])), (a1, .inl (c1, 300, .inr (.inl ce))), (a2, .inl (c2, 16, .inl rg)), (a3, .inl (c3, 300, .inl re)), (a4, .inl (c4, 300, .inl np))] sz)) 1 6 (va_A [(oa, .inl (oc, 1, .inr (.inl fo))), (h0, .inr (0, [.ref a1, .ref a2, .int tk, .int ob, .int co, .ref a3, .int rc, .ref a4])), (a1, .inl (c1, 300, .inr (.inl ce))), (a2, .inl (c2, 16, .inl rg)), (a3, .inl (c3, 300, .inl re)), (a4, .inl (c4, 300, .inl np))] sz) := by
  refine va_MetW (hh := [(0, 9, 12, 13), (0, 9, 16, 21)]) (cc := cL_get) (maxL := 5) (ret := some .int) (by decide) rfl ?_
  intro p e s m args below meth c s₁ B hml hv
  obtain ⟨hargs, ⟨hsz, hP, hK, hD0, hZ⟩, hG⟩ := hv
  have hx := B.exec
  have hb := B.bytes
  have hr := B.returns
  have hts : ∀ w ∈ wb, w.before _ s = true := fun w h => atoms_spec (ws := wsL_get) B.pre w (List.mem_cons_of_mem _ h)
  have hown : s.vm.findClass RL = some m.cls := findClass_of_methodNamed B.named
  have hlocks := B.notSynchronized
  have hTab := vx_table (x := yL_get) B (atoms_spec (ws := wsL_get) B.pre _ List.mem_cons_self)
  subst hsz
  have hD := hD0.self (sz := s.heap.size)
  generalize hAe : va_A [(oa, .inl (oc, 1, .inr (.inl fo))), (h0, .inr (0, [.ref a1, .ref a2, .int tk, .int ob, .int co, .ref a3, .int rc, .ref a4])), (a1, .inl (c1, 300, .inr (.inl ce))), (a2, .inl (c2, 16, .inl rg)), (a3, .inl (c3, 300, .inl re)), (a4, .inl (c4, 300, .inl np))] s.heap.size = A at hD hZ ⊢
  have hA : ∀ q : Nat, s.heap.size ≤ q → A q := fun q h => by rw [← hAe]; exact Or.inr h
  have hS : va_S A s.heap s.heap [] := va_S.rf
  generalize hQ9 : MQ below (va_Qi (fun (x : Int32) (u : Nat → Int64) => x = nI k ∧ (k = 0 → u 0 = hp_n M (hp_at M r) i.toNatClampNeg)) (fun u t => hw_B (dC, dI) vwCl [(oc, .long), (c1, .long), (c2, .int), (c3, .int), (c4, .int)] A ((fun u : Nat → Int64 => [(oa, .inl (oc, 1, .inr (.inl u))), (h0, .inr (0, [.ref a1, .ref a2, .int tk, .int ob, .int co, .ref a3, .int rc, .ref a4])), (a1, .inl (c1, 300, .inr (.inl ce))), (a2, .inl (c2, 16, .inl rg)), (a3, .inl (c3, 300, .inl re)), (a4, .inl (c4, 300, .inl np))]) u) t) A) args s 1 6 A = Q9
  have hl := lv_entry ([.ref h0, .int r, .int i, .ref oa]) (n := 5) (Nat.le_of_ble_eq_true rfl)
  rw [show entryFrame m args 5 = _ from (congrArg (fun z => entryFrame m z 5) hargs).trans (lg_entry_eq m [.ref h0, .int r, .int i, .ref oa] 5)]
  generalize (lg_sl ([.ref h0, .int r, .int i, .ref oa]) ++ List.replicate (5 - (lg_sl ([.ref h0, .int r, .int i, .ref oa])).length) Slot.unset).toArray = ls at hl ⊢
  have hl : lv_has ls 5 [(0, .ref h0), (1, .int r), (2, .int i), (3, .ref oa)] := hl
  obtain ⟨H, hH⟩ : ∃ H, H = s.heap := ⟨_, rfl⟩
  rw [← hH] at hP
  have hS : va_S A s.heap H [] := by rw [hH]; exact hS
  rw [← hH]
  generalize ([] : List Loc) = locs at hS ⊢
  refine lv_aload_n hx hb dL_get_0 rfl (lv_at hl 3 rfl) ?_
  refine lv_iconst (v := 0) hx hb dL_get_1 (by decide) ?_
  refine lv_aload_n hx hb dL_get_2 rfl (lv_at hl 0 rfl) ?_
  refine lv_iload_n hx hb dL_get_3 rfl (lv_at hl 1 rfl) ?_
  refine lv_iload_n hx hb dL_get_4 rfl (lv_at hl 2 rfl) ?_
  by_cases hk0 : k = 0
  · skip
    obtain ⟨hnb, h00, hok, hbi⟩ := hp_lk_0 hk hk0
    obtain ⟨j, hj, rfl⟩ := hp_ok' hnb
    rw [hp_at_n hj] at h00 hok hbi
    have hoL := (hW.2.2.2.1 j hj).resolve_left h00
    have hw9 := hW.2.1 _ hoL
    obtain ⟨q, hq, rfl⟩ := hp_ok hbi (by omega)
    have hPc := hP.sub (ws' := [(h0, .inr (0, [.ref a1, .ref a2, .int tk, .int ob, .int co, .ref a3, .int rc, .ref a4])), (a1, .inl (c1, 300, .inr (.inl ce))), (a2, .inl (c2, 16, .inl rg)), (a3, .inl (c3, 300, .inl re)), (a4, .inl (c4, 300, .inl np))]) [1, 2, 3, 4, 5] rfl
    have hDc := hD.sub (ws' := [(h0, .inr (0, [.ref a1, .ref a2, .int tk, .int ob, .int co, .ref a3, .int rc, .ref a4])), (a1, .inl (c1, 300, .inr (.inl ce))), (a2, .inl (c2, 16, .inl rg)), (a3, .inl (c3, 300, .inl re)), (a4, .inl (c4, 300, .inl np))]) [1, 2, 3, 4, 5] (by decide) rfl
    have hKc := hK.sub (tys' := [(c1, .long), (c2, .int), (c3, .int), (c4, .int)]) [1, 2, 3, 4] rfl
    refine W.callV (W.runV (As := [.int (nI j), .int (nI q)]) (rest := [.int 0, .ref oa]) ⟨hx, hb, hml, hown, hts⟩ (c_X0_get l dC dI h0 a1 a2 a3 a4 c1 c2 c3 c4 ce rg tk ob co re rc np _ M hW hC j q hj h00 hok hq) (cwV 2 hts gw_L_42 rfl rfl rfl ⟨rfl, by decide, by decide, by decide +kernel⟩ ⟨Nat.le_of_ble_eq_true rfl, Nat.le_of_ble_eq_true rfl⟩) ⟨hw_blind, va_recv (q0 := 0) (ci := 0) (q := (RX0, TX0, 8)) hKc hPc rfl rfl, hw_pay hPc hKc hDc⟩ rfl rfl hl.1 rfl (lv_room (Nat.le_of_ble_eq_true rfl)) dL_get_5 ⟨by decide, by decide⟩) ?_
    refine W.eq (g2 := F0 m 8 ls [.long (hp_n M (hp_r M j) q), .int 0, .ref oa]) rfl ?_
    refine hw_last (j := 0) hx hb hK hP hD hS 0 0 rfl rfl (nI_0.symm) (by decide) (by decide) dL_get_8 (fun H locs hP hD hS => ?_)
    have hP : va_P (dC, dI) vwCl [(oa, .inl (oc, 1, .inr (.inl (vp_updL fo 0 (hp_n M (hp_r M j) q))))), (h0, .inr (0, [.ref a1, .ref a2, .int tk, .int ob, .int co, .ref a3, .int rc, .ref a4])), (a1, .inl (c1, 300, .inr (.inl ce))), (a2, .inl (c2, 16, .inl rg)), (a3, .inl (c3, 300, .inl re)), (a4, .inl (c4, 300, .inl np))] H := hP
    have hD : va_D A [(oa, .inl (oc, 1, .inr (.inl (vp_updL fo 0 (hp_n M (hp_r M j) q))))), (h0, .inr (0, [.ref a1, .ref a2, .int tk, .int ob, .int co, .ref a3, .int rc, .ref a4])), (a1, .inl (c1, 300, .inr (.inl ce))), (a2, .inl (c2, 16, .inl rg)), (a3, .inl (c3, 300, .inl re)), (a4, .inl (c4, 300, .inl np))] := hD
    refine lv_goto hx hb dL_get_9 (tgt := 20) (by decide) ?_
    refine lv_iconst (v := 0) hx hb dL_get_20 (by decide) ?_
    subst hQ9
    refine W.widen (k := 1) (n := 6) (by decide) (by decide) ?_
    exact W.iret (v := 0) hx hb hr (fun t ht hWm => ⟨⟨0, (vp_updL fo 0 (hp_n M (hp_r M j) q)), rfl, ⟨by rw [hk0]; exact nI_0.symm, fun _ => by rw [pk_uLs, hp_at_n hj, nI_clamp (by omega)]⟩, by rw [ht]; exact hP, va_K.moved hWm.alike hK, hD⟩, hS.F ht⟩) hS.2.2 dL_get_21
  · skip
    have hPc := hP.sub (ws' := [(h0, .inr (0, [.ref a1, .ref a2, .int tk, .int ob, .int co, .ref a3, .int rc, .ref a4])), (a1, .inl (c1, 300, .inr (.inl ce))), (a2, .inl (c2, 16, .inl rg)), (a3, .inl (c3, 300, .inl re)), (a4, .inl (c4, 300, .inl np))]) [1, 2, 3, 4, 5] rfl
    have hDc := hD.sub (ws' := [(h0, .inr (0, [.ref a1, .ref a2, .int tk, .int ob, .int co, .ref a3, .int rc, .ref a4])), (a1, .inl (c1, 300, .inr (.inl ce))), (a2, .inl (c2, 16, .inl rg)), (a3, .inl (c3, 300, .inl re)), (a4, .inl (c4, 300, .inl np))]) [1, 2, 3, 4, 5] (by decide) rfl
    have hKc := hK.sub (tys' := [(c1, .long), (c2, .int), (c3, .int), (c4, .int)]) [1, 2, 3, 4] rfl
    refine hx_throwsP (wc := [(h0, .inr (0, [.ref a1, .ref a2, .int tk, .int ob, .int co, .ref a3, .int rc, .ref a4])), (a1, .inl (c1, 300, .inr (.inl ce))), (a2, .inl (c2, 16, .inl rg)), (a3, .inl (c3, 300, .inl re)), (a4, .inl (c4, 300, .inl np))]) (wr := [(oa, .inl (oc, 1, .inr (.inl fo)))]) [1, 2, 3, 4, 5] [0] (vx_runV (As := [.int r, .int i]) (rest := [.int 0, .ref oa]) ⟨hx, hb, hml, hown, hts⟩ (x_X0_get l dC dI h0 a1 a2 a3 a4 c1 c2 c3 c4 ce rg tk ob co re rc np _ hl9 M hW hC r i k hk hk0) (cwV 2 hts gw_L_42 rfl rfl rfl ⟨rfl, by decide, by decide, by decide +kernel⟩ ⟨Nat.le_of_ble_eq_true rfl, Nat.le_of_ble_eq_true rfl⟩) ⟨hx_blind, va_recv (q0 := 0) (ci := 0) (q := (RX0, TX0, 8)) hKc hPc rfl rfl, hx_pay hPc hKc hDc hS hA hZ⟩ rfl rfl hl.1 rfl (lv_room (Nat.le_of_ble_eq_true rfl)) dL_get_5 ⟨by decide, by decide⟩) hP hD hS hA rfl rfl (by decide) (by decide) (fun E ce9 q9 u9 H locs hb9 hP hD hS h1 h2 h3 => ?_)
    have hP : va_P (dC, dI) vwCl [(oa, .inl (oc, 1, .inr (.inl fo))), (h0, .inr (0, [.ref a1, .ref a2, .int tk, .int ob, .int co, .ref a3, .int rc, .ref a4])), (a1, .inl (c1, 300, .inr (.inl ce))), (a2, .inl (c2, 16, .inl rg)), (a3, .inl (c3, 300, .inl re)), (a4, .inl (c4, 300, .inl np))] H := hP
    have hD : va_D A [(oa, .inl (oc, 1, .inr (.inl fo))), (h0, .inr (0, [.ref a1, .ref a2, .int tk, .int ob, .int co, .ref a3, .int rc, .ref a4])), (a1, .inl (c1, 300, .inr (.inl ce))), (a2, .inl (c2, 16, .inl rg)), (a3, .inl (c3, 300, .inl re)), (a4, .inl (c4, 300, .inl np))] := hD
    rcases hb9 with ⟨hE, hk1⟩ | ⟨hE, hk1⟩
    · skip
      subst hE
      refine vx_catch (own := RL) (name := hz_A) (E := hz_A) hown [] ⟨0, 9, 12, 13⟩ [⟨0, 9, 16, 21⟩] (by rw [hTab]; rfl) (fun z hz => nomatch hz) (by decide) (by decide) (hts _ bw_cl_L_13) (va_Nw.use rfl hZ.2.2.1.1) h1 h2 h3 ?_
      refine lv_astore hx hb dL_get_12 hl (by decide) rfl (fun ls hl => ?_)
      have hl : lv_has ls 5 [(4, .ref q9), (0, .ref h0), (1, .int r), (2, .int i), (3, .ref oa)] := hl
      refine lv_iconst (v := 1) hx hb dL_get_14 (by decide) ?_
      subst hQ9
      refine W.widen (k := 1) (n := 6) (by decide) (by decide) ?_
      exact W.iret (v := 1) hx hb hr (fun t ht hWm => ⟨⟨1, fo, rfl, ⟨by rw [hk1]; decide, fun h9 => absurd h9 hk0⟩, by rw [ht]; exact hP, va_K.moved hWm.alike hK, hD⟩, hS.F ht⟩) hS.2.2 dL_get_15
    · skip
      subst hE
      refine vx_catch (own := RL) (name := hz_N) (E := hz_N) hown [⟨0, 9, 12, 13⟩] ⟨0, 9, 16, 21⟩ [] (by rw [hTab]; rfl) (fun z hz => by
          simp only [List.mem_cons, List.not_mem_nil, or_false] at hz
          subst hz
          exact Or.inr ⟨by decide, _, hts _ bw_cl_L_13, hG.2.1⟩) (by decide) (by decide) (hts _ bw_cl_L_21) (va_Nw.use rfl hZ.2.2.1.2.2) h1 h2 h3 ?_
      refine lv_astore hx hb dL_get_16 hl (by decide) rfl (fun ls hl => ?_)
      have hl : lv_has ls 5 [(4, .ref q9), (0, .ref h0), (1, .int r), (2, .int i), (3, .ref oa)] := hl
      refine lv_iconst (v := 2) hx hb dL_get_18 (by decide) ?_
      subst hQ9
      refine W.widen (k := 1) (n := 6) (by decide) (by decide) ?_
      exact W.iret (v := 2) hx hb hr (fun t ht hWm => ⟨⟨2, fo, rfl, ⟨by rw [hk1]; decide, fun h9 => absurd h9 hk0⟩, by rw [ht]; exact hP, va_K.moved hWm.alike hK, hD⟩, hS.F ht⟩) hS.2.2 dL_get_19

set_option maxHeartbeats 4000000 in
set_option maxRecDepth 100000 in
theorem w1_make (l : Launch) (dC : Nat → ClassId) (dI : Nat → Nat → Nat) (h0 a1 a2 a3 a4 : Nat) (c1 c2 c3 c4 : ClassId) (oa : Nat) (oc : ClassId) (ce : Nat → Int64) (rg : Nat → Int32) (tk ob co : Int32) (re : Nat → Int32) (rc : Int32) (np : Nat → Int32) (sz : Nat) (fo : Nat → Int64) (hl9 : l.stackTraces = false) (r y x : Int32) (hbad : hp_bad r 16 ∨ hp_bad x 41) : Met l yL_make wsL_make ({ frames := 9, cells := 1, slots := 6, locals := 165 }) (va_Pc [.ref h0, .int r, .int y, .int x, .ref oa] (hv_pre (dC, dI) vwCl [(oc, .long), (c1, .long), (c2, .int), (c3, .int), (c4, .int)] [(oa, .inl (oc, 1, .inr (.inl fo))), (h0, .inr (0, [.ref a1, .ref a2, .int tk, .int ob, .int co, .ref a3, .int rc, .ref a4])), (a1, .inl (c1, 300, .inr (.inl ce))), (a2, .inl (c2, 16, .inl rg)), (a3, .inl (c3, 300, .inl re)), (a4, .inl (c4, 300, .inl np))] sz)) (va_Qi (fun (a : Int32) (_ : Nat → Int64) => a = 1) (fun u t => hw_B (dC, dI) vwCl [(oc, .long), (c1, .long), (c2, .int), (c3, .int), (c4, .int)] (va_A [(oa, .inl (oc, 1, .inr (.inl fo))), (h0, .inr (0, [.ref a1, .ref a2, .int tk, .int ob, .int co, .ref a3, .int rc, .ref a4])), (a1, .inl (c1, 300, .inr (.inl ce))), (a2, .inl (c2, 16, .inl rg)), (a3, .inl (c3, 300, .inl re)), (a4, .inl (c4, 300, .inl np))] sz) ((fun u : Nat → Int64 => [(oa, .inl (oc, 1, .inr (.inl u))), (h0, .inr (0, [.ref a1, .ref a2, .int tk, .int ob, .int co, .ref a3, .int rc, .ref a4])), (a1, .inl (c1, 300, .inr (.inl ce))), (a2, .inl (c2, 16, .inl rg)), (a3, .inl (c3, 300, .inl re)), (a4, .inl (c4, 300, .inl np))]) u) t) (va_A [(oa, .inl (oc, 1, .inr (.inl fo))), (h0, .inr (0, [.ref a1, .ref a2, .int tk, .int ob, .int co, .ref a3, .int rc, .ref a4])), (a1, .inl (c1, 300, .inr (.inl ce))), (a2, .inl (c2, 16, .inl rg)), (a3, .inl (c3, 300, .inl re)), (a4, .inl (c4, 300, .inl np))] sz)) 1 6 (va_A [(oa, .inl (oc, 1, .inr (.inl fo))), (h0, .inr (0, [.ref a1, .ref a2, .int tk, .int ob, .int co, .ref a3, .int rc, .ref a4])), (a1, .inl (c1, 300, .inr (.inl ce))), (a2, .inl (c2, 16, .inl rg)), (a3, .inl (c3, 300, .inl re)), (a4, .inl (c4, 300, .inl np))] sz) := by
  refine va_MetW (hh := [(0, 12, 15, 13), (0, 12, 19, 15)]) (cc := cL_make) (maxL := 6) (ret := some .int) (by decide) rfl ?_
  intro p e s m args below meth c s₁ B hml hv
  obtain ⟨hargs, ⟨hsz, hP, hK, hD0, hZ⟩, hG⟩ := hv
  have hx := B.exec
  have hb := B.bytes
  have hr := B.returns
  have hts : ∀ w ∈ wb, w.before _ s = true := fun w h => atoms_spec (ws := wsL_make) B.pre w (List.mem_cons_of_mem _ h)
  have hown : s.vm.findClass RL = some m.cls := findClass_of_methodNamed B.named
  have hlocks := B.notSynchronized
  have hTab := vx_table (x := yL_make) B (atoms_spec (ws := wsL_make) B.pre _ List.mem_cons_self)
  subst hsz
  have hD := hD0.self (sz := s.heap.size)
  generalize hAe : va_A [(oa, .inl (oc, 1, .inr (.inl fo))), (h0, .inr (0, [.ref a1, .ref a2, .int tk, .int ob, .int co, .ref a3, .int rc, .ref a4])), (a1, .inl (c1, 300, .inr (.inl ce))), (a2, .inl (c2, 16, .inl rg)), (a3, .inl (c3, 300, .inl re)), (a4, .inl (c4, 300, .inl np))] s.heap.size = A at hD hZ ⊢
  have hA : ∀ q : Nat, s.heap.size ≤ q → A q := fun q h => by rw [← hAe]; exact Or.inr h
  have hS : va_S A s.heap s.heap [] := va_S.rf
  generalize hQ9 : MQ below (va_Qi (fun (a : Int32) (_ : Nat → Int64) => a = 1) (fun u t => hw_B (dC, dI) vwCl [(oc, .long), (c1, .long), (c2, .int), (c3, .int), (c4, .int)] A ((fun u : Nat → Int64 => [(oa, .inl (oc, 1, .inr (.inl u))), (h0, .inr (0, [.ref a1, .ref a2, .int tk, .int ob, .int co, .ref a3, .int rc, .ref a4])), (a1, .inl (c1, 300, .inr (.inl ce))), (a2, .inl (c2, 16, .inl rg)), (a3, .inl (c3, 300, .inl re)), (a4, .inl (c4, 300, .inl np))]) u) t) A) args s 1 6 A = Q9
  have hl := lv_entry ([.ref h0, .int r, .int y, .int x, .ref oa]) (n := 6) (Nat.le_of_ble_eq_true rfl)
  rw [show entryFrame m args 6 = _ from (congrArg (fun z => entryFrame m z 6) hargs).trans (lg_entry_eq m [.ref h0, .int r, .int y, .int x, .ref oa] 6)]
  generalize (lg_sl ([.ref h0, .int r, .int y, .int x, .ref oa]) ++ List.replicate (6 - (lg_sl ([.ref h0, .int r, .int y, .int x, .ref oa])).length) Slot.unset).toArray = ls at hl ⊢
  have hl : lv_has ls 6 [(0, .ref h0), (1, .int r), (2, .int y), (3, .int x), (4, .ref oa)] := hl
  obtain ⟨H, hH⟩ : ∃ H, H = s.heap := ⟨_, rfl⟩
  rw [← hH] at hP
  have hS : va_S A s.heap H [] := by rw [hH]; exact hS
  rw [← hH]
  generalize ([] : List Loc) = locs at hS ⊢
  refine lv_aload hx hb dL_make_0 (lv_at hl 4 rfl) ?_
  refine lv_iconst (v := 0) hx hb dL_make_2 (by decide) ?_
  refine lv_aload_n hx hb dL_make_3 rfl (lv_at hl 0 rfl) ?_
  refine lv_iload_n hx hb dL_make_4 rfl (lv_at hl 1 rfl) ?_
  refine lv_iload_n hx hb dL_make_5 rfl (lv_at hl 2 rfl) ?_
  refine lv_iload_n hx hb dL_make_6 rfl (lv_at hl 3 rfl) ?_
  have hPc := hP.sub (ws' := [(h0, .inr (0, [.ref a1, .ref a2, .int tk, .int ob, .int co, .ref a3, .int rc, .ref a4])), (a1, .inl (c1, 300, .inr (.inl ce))), (a2, .inl (c2, 16, .inl rg)), (a3, .inl (c3, 300, .inl re)), (a4, .inl (c4, 300, .inl np))]) [1, 2, 3, 4, 5] rfl
  have hDc := hD.sub (ws' := [(h0, .inr (0, [.ref a1, .ref a2, .int tk, .int ob, .int co, .ref a3, .int rc, .ref a4])), (a1, .inl (c1, 300, .inr (.inl ce))), (a2, .inl (c2, 16, .inl rg)), (a3, .inl (c3, 300, .inl re)), (a4, .inl (c4, 300, .inl np))]) [1, 2, 3, 4, 5] (by decide) rfl
  have hKc := hK.sub (tys' := [(c1, .long), (c2, .int), (c3, .int), (c4, .int)]) [1, 2, 3, 4] rfl
  refine hx_throwsP (wc := [(h0, .inr (0, [.ref a1, .ref a2, .int tk, .int ob, .int co, .ref a3, .int rc, .ref a4])), (a1, .inl (c1, 300, .inr (.inl ce))), (a2, .inl (c2, 16, .inl rg)), (a3, .inl (c3, 300, .inl re)), (a4, .inl (c4, 300, .inl np))]) (wr := [(oa, .inl (oc, 1, .inr (.inl fo)))]) [1, 2, 3, 4, 5] [0] (vx_runV (As := [.int r, .int y, .int x]) (rest := [.int 0, .ref oa]) ⟨hx, hb, hml, hown, hts⟩ (x_X0_make l dC dI h0 a1 a2 a3 a4 c1 c2 c3 c4 ce rg tk ob co re rc np _ hl9 r y x hbad) (cwV 3 hts gw_L_7 rfl rfl rfl ⟨rfl, by decide, by decide, by decide +kernel⟩ ⟨Nat.le_of_ble_eq_true rfl, Nat.le_of_ble_eq_true rfl⟩) ⟨hx_blind, va_recv (q0 := 0) (ci := 0) (q := (RX0, TX0, 8)) hKc hPc rfl rfl, hx_pay hPc hKc hDc hS hA hZ⟩ rfl rfl hl.1 rfl (lv_room (Nat.le_of_ble_eq_true rfl)) dL_make_7 ⟨by decide, by decide⟩) hP hD hS hA rfl rfl (by decide) (by decide) (fun E ce9 q9 u9 H locs hb9 hP hD hS h1 h2 h3 => ?_)
  have hP : va_P (dC, dI) vwCl [(oa, .inl (oc, 1, .inr (.inl fo))), (h0, .inr (0, [.ref a1, .ref a2, .int tk, .int ob, .int co, .ref a3, .int rc, .ref a4])), (a1, .inl (c1, 300, .inr (.inl ce))), (a2, .inl (c2, 16, .inl rg)), (a3, .inl (c3, 300, .inl re)), (a4, .inl (c4, 300, .inl np))] H := hP
  have hD : va_D A [(oa, .inl (oc, 1, .inr (.inl fo))), (h0, .inr (0, [.ref a1, .ref a2, .int tk, .int ob, .int co, .ref a3, .int rc, .ref a4])), (a1, .inl (c1, 300, .inr (.inl ce))), (a2, .inl (c2, 16, .inl rg)), (a3, .inl (c3, 300, .inl re)), (a4, .inl (c4, 300, .inl np))] := hD
  have hE : E = hz_A := hb9
  subst hE
  refine vx_catch (own := RL) (name := hz_A) (E := hz_A) hown [] ⟨0, 12, 15, 13⟩ [⟨0, 12, 19, 15⟩] (by rw [hTab]; rfl) (fun z hz => nomatch hz) (by decide) (by decide) (hts _ bw_cl_L_13) (va_Nw.use rfl hZ.2.2.1.1) h1 h2 h3 ?_
  refine lv_astore hx hb dL_make_15 hl (by decide) rfl (fun ls hl => ?_)
  have hl : lv_has ls 6 [(5, .ref q9), (0, .ref h0), (1, .int r), (2, .int y), (3, .int x), (4, .ref oa)] := hl
  refine lv_iconst (v := 1) hx hb dL_make_17 (by decide) ?_
  subst hQ9
  refine W.widen (k := 1) (n := 6) (by decide) (by decide) ?_
  exact W.iret (v := 1) hx hb hr (fun t ht hWm => ⟨⟨1, fo, rfl, rfl, by rw [ht]; exact hP, va_K.moved hWm.alike hK, hD⟩, hS.F ht⟩) hS.2.2 dL_make_18

set_option maxHeartbeats 4000000 in
set_option maxRecDepth 100000 in
theorem w2_make (l : Launch) (dC : Nat → ClassId) (dI : Nat → Nat → Nat) (h0 a1 a2 a3 a4 : Nat) (c1 c2 c3 c4 : ClassId) (oa : Nat) (oc : ClassId) (ce : Nat → Int64) (rg : Nat → Int32) (tk ob co : Int32) (re : Nat → Int32) (rc : Int32) (np : Nat → Int32) (sz : Nat) (fo : Nat → Int64) (hl9 : l.stackTraces = false) (M : hp_S) (hW : hp_W M) (hC : hp_C M ce rg tk ob co) (j n k : Nat) (y : Int32) (hj : j < 16) (hn : n ≤ 40) (hlk : y = 0 ∧ k = 2 ∨ ¬ y = 0 ∧ k = 1) (hfull : ¬ hp_tk (hp_rm M n) + (1 + n) ≤ 300) : Met l yL_make wsL_make ({ frames := 9, cells := 1, slots := 6, locals := 165 }) (va_Pc [.ref h0, .int (nI j), .int y, .int (nI n), .ref oa] (hv_pre (dC, dI) vwCl [(oc, .long), (c1, .long), (c2, .int), (c3, .int), (c4, .int)] [(oa, .inl (oc, 1, .inr (.inl fo))), (h0, .inr (0, [.ref a1, .ref a2, .int tk, .int ob, .int co, .ref a3, .int rc, .ref a4])), (a1, .inl (c1, 300, .inr (.inl ce))), (a2, .inl (c2, 16, .inl rg)), (a3, .inl (c3, 300, .inl re)), (a4, .inl (c4, 300, .inl np))] sz)) (va_Qi (fun (a : Int32) (u : (Nat → Int64) × (Nat → Int64) × (Nat → Int32) × Int32 × Int32 × Int32 × (Nat → Int32) × Int32 × (Nat → Int32)) => a = 2 ∧ hp_C (hp_rm M n) u.2.1 u.2.2.1 u.2.2.2.1 u.2.2.2.2.1 u.2.2.2.2.2.1) (fun u t => hw_B (dC, dI) vwCl [(oc, .long), (c1, .long), (c2, .int), (c3, .int), (c4, .int)] (va_A [(oa, .inl (oc, 1, .inr (.inl fo))), (h0, .inr (0, [.ref a1, .ref a2, .int tk, .int ob, .int co, .ref a3, .int rc, .ref a4])), (a1, .inl (c1, 300, .inr (.inl ce))), (a2, .inl (c2, 16, .inl rg)), (a3, .inl (c3, 300, .inl re)), (a4, .inl (c4, 300, .inl np))] sz) ((fun u : (Nat → Int64) × (Nat → Int64) × (Nat → Int32) × Int32 × Int32 × Int32 × (Nat → Int32) × Int32 × (Nat → Int32) => [(oa, .inl (oc, 1, .inr (.inl u.1))), (h0, .inr (0, [.ref a1, .ref a2, .int u.2.2.2.1, .int u.2.2.2.2.1, .int u.2.2.2.2.2.1, .ref a3, .int u.2.2.2.2.2.2.2.1, .ref a4])), (a1, .inl (c1, 300, .inr (.inl u.2.1))), (a2, .inl (c2, 16, .inl u.2.2.1)), (a3, .inl (c3, 300, .inl u.2.2.2.2.2.2.1)), (a4, .inl (c4, 300, .inl u.2.2.2.2.2.2.2.2))]) u) t) (va_A [(oa, .inl (oc, 1, .inr (.inl fo))), (h0, .inr (0, [.ref a1, .ref a2, .int tk, .int ob, .int co, .ref a3, .int rc, .ref a4])), (a1, .inl (c1, 300, .inr (.inl ce))), (a2, .inl (c2, 16, .inl rg)), (a3, .inl (c3, 300, .inl re)), (a4, .inl (c4, 300, .inl np))] sz)) 1 6 (va_A [(oa, .inl (oc, 1, .inr (.inl fo))), (h0, .inr (0, [.ref a1, .ref a2, .int tk, .int ob, .int co, .ref a3, .int rc, .ref a4])), (a1, .inl (c1, 300, .inr (.inl ce))), (a2, .inl (c2, 16, .inl rg)), (a3, .inl (c3, 300, .inl re)), (a4, .inl (c4, 300, .inl np))] sz) := by
  refine va_MetW (hh := [(0, 12, 15, 13), (0, 12, 19, 15)]) (cc := cL_make) (maxL := 6) (ret := some .int) (by decide) rfl ?_
  intro p e s m args below meth c s₁ B hml hv
  obtain ⟨hargs, ⟨hsz, hP, hK, hD0, hZ⟩, hG⟩ := hv
  have hx := B.exec
  have hb := B.bytes
  have hr := B.returns
  have hts : ∀ w ∈ wb, w.before _ s = true := fun w h => atoms_spec (ws := wsL_make) B.pre w (List.mem_cons_of_mem _ h)
  have hown : s.vm.findClass RL = some m.cls := findClass_of_methodNamed B.named
  have hlocks := B.notSynchronized
  have hTab := vx_table (x := yL_make) B (atoms_spec (ws := wsL_make) B.pre _ List.mem_cons_self)
  subst hsz
  have hD := hD0.self (sz := s.heap.size)
  generalize hAe : va_A [(oa, .inl (oc, 1, .inr (.inl fo))), (h0, .inr (0, [.ref a1, .ref a2, .int tk, .int ob, .int co, .ref a3, .int rc, .ref a4])), (a1, .inl (c1, 300, .inr (.inl ce))), (a2, .inl (c2, 16, .inl rg)), (a3, .inl (c3, 300, .inl re)), (a4, .inl (c4, 300, .inl np))] s.heap.size = A at hD hZ ⊢
  have hA : ∀ q : Nat, s.heap.size ≤ q → A q := fun q h => by rw [← hAe]; exact Or.inr h
  have hS : va_S A s.heap s.heap [] := va_S.rf
  generalize hQ9 : MQ below (va_Qi (fun (a : Int32) (u : (Nat → Int64) × (Nat → Int64) × (Nat → Int32) × Int32 × Int32 × Int32 × (Nat → Int32) × Int32 × (Nat → Int32)) => a = 2 ∧ hp_C (hp_rm M n) u.2.1 u.2.2.1 u.2.2.2.1 u.2.2.2.2.1 u.2.2.2.2.2.1) (fun u t => hw_B (dC, dI) vwCl [(oc, .long), (c1, .long), (c2, .int), (c3, .int), (c4, .int)] A ((fun u : (Nat → Int64) × (Nat → Int64) × (Nat → Int32) × Int32 × Int32 × Int32 × (Nat → Int32) × Int32 × (Nat → Int32) => [(oa, .inl (oc, 1, .inr (.inl u.1))), (h0, .inr (0, [.ref a1, .ref a2, .int u.2.2.2.1, .int u.2.2.2.2.1, .int u.2.2.2.2.2.1, .ref a3, .int u.2.2.2.2.2.2.2.1, .ref a4])), (a1, .inl (c1, 300, .inr (.inl u.2.1))), (a2, .inl (c2, 16, .inl u.2.2.1)), (a3, .inl (c3, 300, .inl u.2.2.2.2.2.2.1)), (a4, .inl (c4, 300, .inl u.2.2.2.2.2.2.2.2))]) u) t) A) args s 1 6 A = Q9
  have hl := lv_entry ([.ref h0, .int (nI j), .int y, .int (nI n), .ref oa]) (n := 6) (Nat.le_of_ble_eq_true rfl)
  rw [show entryFrame m args 6 = _ from (congrArg (fun z => entryFrame m z 6) hargs).trans (lg_entry_eq m [.ref h0, .int (nI j), .int y, .int (nI n), .ref oa] 6)]
  generalize (lg_sl ([.ref h0, .int (nI j), .int y, .int (nI n), .ref oa]) ++ List.replicate (6 - (lg_sl ([.ref h0, .int (nI j), .int y, .int (nI n), .ref oa])).length) Slot.unset).toArray = ls at hl ⊢
  have hl : lv_has ls 6 [(0, .ref h0), (1, .int (nI j)), (2, .int y), (3, .int (nI n)), (4, .ref oa)] := hl
  obtain ⟨H, hH⟩ : ∃ H, H = s.heap := ⟨_, rfl⟩
  rw [← hH] at hP
  have hS : va_S A s.heap H [] := by rw [hH]; exact hS
  rw [← hH]
  generalize ([] : List Loc) = locs at hS ⊢
  refine lv_aload hx hb dL_make_0 (lv_at hl 4 rfl) ?_
  refine lv_iconst (v := 0) hx hb dL_make_2 (by decide) ?_
  refine lv_aload_n hx hb dL_make_3 rfl (lv_at hl 0 rfl) ?_
  refine lv_iload_n hx hb dL_make_4 rfl (lv_at hl 1 rfl) ?_
  refine lv_iload_n hx hb dL_make_5 rfl (lv_at hl 2 rfl) ?_
  refine lv_iload_n hx hb dL_make_6 rfl (lv_at hl 3 rfl) ?_
  have hPc := hP.sub (ws' := [(h0, .inr (0, [.ref a1, .ref a2, .int tk, .int ob, .int co, .ref a3, .int rc, .ref a4])), (a1, .inl (c1, 300, .inr (.inl ce))), (a2, .inl (c2, 16, .inl rg)), (a3, .inl (c3, 300, .inl re)), (a4, .inl (c4, 300, .inl np))]) [1, 2, 3, 4, 5] rfl
  have hDc := hD.sub (ws' := [(h0, .inr (0, [.ref a1, .ref a2, .int tk, .int ob, .int co, .ref a3, .int rc, .ref a4])), (a1, .inl (c1, 300, .inr (.inl ce))), (a2, .inl (c2, 16, .inl rg)), (a3, .inl (c3, 300, .inl re)), (a4, .inl (c4, 300, .inl np))]) [1, 2, 3, 4, 5] (by decide) rfl
  have hKc := hK.sub (tys' := [(c1, .long), (c2, .int), (c3, .int), (c4, .int)]) [1, 2, 3, 4] rfl
  refine hx_throwsP (wc := [(h0, .inr (0, [.ref a1, .ref a2, .int tk, .int ob, .int co, .ref a3, .int rc, .ref a4])), (a1, .inl (c1, 300, .inr (.inl ce))), (a2, .inl (c2, 16, .inl rg)), (a3, .inl (c3, 300, .inl re)), (a4, .inl (c4, 300, .inl np))]) (wr := [(oa, .inl (oc, 1, .inr (.inl fo)))]) [1, 2, 3, 4, 5] [0] (vx_runV (As := [.int (nI j), .int y, .int (nI n)]) (rest := [.int 0, .ref oa]) ⟨hx, hb, hml, hown, hts⟩ (xf_X0_make l dC dI h0 a1 a2 a3 a4 c1 c2 c3 c4 ce rg tk ob co re rc np _ hl9 M hW hC j n k y hj hn hlk hfull) (cwV 3 hts gw_L_7 rfl rfl rfl ⟨rfl, by decide, by decide, by decide +kernel⟩ ⟨Nat.le_of_ble_eq_true rfl, Nat.le_of_ble_eq_true rfl⟩) ⟨hx_blind, va_recv (q0 := 0) (ci := 0) (q := (RX0, TX0, 8)) hKc hPc rfl rfl, hx_pay hPc hKc hDc hS hA hZ⟩ rfl rfl hl.1 rfl (lv_room (Nat.le_of_ble_eq_true rfl)) dL_make_7 ⟨by decide, by decide⟩) hP hD hS hA rfl rfl (by decide) (by decide) (fun E ce9 q9 u9 H locs hb9 hP hD hS h1 h2 h3 => ?_)
  obtain ⟨ce, rg, tk, ob, co, re, rc, np⟩ := u9
  have hP : va_P (dC, dI) vwCl [(oa, .inl (oc, 1, .inr (.inl fo))), (h0, .inr (0, [.ref a1, .ref a2, .int tk, .int ob, .int co, .ref a3, .int rc, .ref a4])), (a1, .inl (c1, 300, .inr (.inl ce))), (a2, .inl (c2, 16, .inl rg)), (a3, .inl (c3, 300, .inl re)), (a4, .inl (c4, 300, .inl np))] H := hP
  have hD : va_D A [(oa, .inl (oc, 1, .inr (.inl fo))), (h0, .inr (0, [.ref a1, .ref a2, .int tk, .int ob, .int co, .ref a3, .int rc, .ref a4])), (a1, .inl (c1, 300, .inr (.inl ce))), (a2, .inl (c2, 16, .inl rg)), (a3, .inl (c3, 300, .inl re)), (a4, .inl (c4, 300, .inl np))] := hD
  obtain ⟨hE, hC1⟩ := hb9
  subst hE
  refine vx_catch (own := RL) (name := hz_I) (E := hz_I) hown [⟨0, 12, 15, 13⟩] ⟨0, 12, 19, 15⟩ [] (by rw [hTab]; rfl) (fun z hz => by
      simp only [List.mem_cons, List.not_mem_nil, or_false] at hz
      subst hz
      exact Or.inr ⟨by decide, _, hts _ bw_cl_L_13, hG.1⟩) (by decide) (by decide) (hts _ bw_cl_L_15) (va_Nw.use rfl hZ.2.2.1.2.1) h1 h2 h3 ?_
  refine lv_astore hx hb dL_make_19 hl (by decide) rfl (fun ls hl => ?_)
  have hl : lv_has ls 6 [(5, .ref q9), (0, .ref h0), (1, .int (nI j)), (2, .int y), (3, .int (nI n)), (4, .ref oa)] := hl
  refine lv_iconst (v := 2) hx hb dL_make_21 (by decide) ?_
  subst hQ9
  refine W.widen (k := 1) (n := 6) (by decide) (by decide) ?_
  exact W.iret (v := 2) hx hb hr (fun t ht hWm => ⟨⟨2, (fo, ce, rg, tk, ob, co, re, rc, np), rfl, ⟨rfl, hC1⟩, by rw [ht]; exact hP, va_K.moved hWm.alike hK, hD⟩, hS.F ht⟩) hS.2.2 dL_make_22

set_option maxHeartbeats 4000000 in
set_option maxRecDepth 100000 in
theorem w0_make (l : Launch) (dC : Nat → ClassId) (dI : Nat → Nat → Nat) (h0 a1 a2 a3 a4 : Nat) (c1 c2 c3 c4 : ClassId) (oa : Nat) (oc : ClassId) (ce : Nat → Int64) (rg : Nat → Int32) (tk ob co : Int32) (re : Nat → Int32) (rc : Int32) (np : Nat → Int32) (sz : Nat) (fo : Nat → Int64) (hl9 : l.stackTraces = false) (M : hp_S) (hW : hp_W M) (hC : hp_C M ce rg tk ob co) (j n k : Nat) (y : Int32) (hj : j < 16) (hn : n ≤ 40) (hlk : y = 0 ∧ k = 2 ∨ ¬ y = 0 ∧ k = 1) (hfit : hp_tk (hp_rm M n) + (1 + n) ≤ 300) : Met l yL_make wsL_make ({ frames := 9, cells := 1, slots := 6, locals := 165 }) (va_Pc [.ref h0, .int (nI j), .int y, .int (nI n), .ref oa] (hv_pre (dC, dI) vwCl [(oc, .long), (c1, .long), (c2, .int), (c3, .int), (c4, .int)] [(oa, .inl (oc, 1, .inr (.inl fo))), (h0, .inr (0, [.ref a1, .ref a2, .int tk, .int ob, .int co, .ref a3, .int rc, .ref a4])), (a1, .inl (c1, 300, .inr (.inl ce))), (a2, .inl (c2, 16, .inl rg)), (a3, .inl (c3, 300, .inl re)), (a4, .inl (c4, 300, .inl np))] sz)) (va_Qi (fun (a : Int32) (u : (Nat → Int64) × (Nat → Int64) × (Nat → Int32) × Int32 × Int32 × Int32 × (Nat → Int32) × Int32 × (Nat → Int32)) => a = 0 ∧ u.1 0 = (nI (hp_tk (hp_rm M n))).toInt64 ∧ ∀ o, o ∉ hp_L (hp_rm M n) → 1 ≤ o → hp_C (hp_sr (hp_mk (hp_rm M n) o k n) j o) u.2.1 u.2.2.1 u.2.2.2.1 u.2.2.2.2.1 u.2.2.2.2.2.1) (fun u t => hw_B (dC, dI) vwCl [(oc, .long), (c1, .long), (c2, .int), (c3, .int), (c4, .int)] (va_A [(oa, .inl (oc, 1, .inr (.inl fo))), (h0, .inr (0, [.ref a1, .ref a2, .int tk, .int ob, .int co, .ref a3, .int rc, .ref a4])), (a1, .inl (c1, 300, .inr (.inl ce))), (a2, .inl (c2, 16, .inl rg)), (a3, .inl (c3, 300, .inl re)), (a4, .inl (c4, 300, .inl np))] sz) ((fun u : (Nat → Int64) × (Nat → Int64) × (Nat → Int32) × Int32 × Int32 × Int32 × (Nat → Int32) × Int32 × (Nat → Int32) => [(oa, .inl (oc, 1, .inr (.inl u.1))), (h0, .inr (0, [.ref a1, .ref a2, .int u.2.2.2.1, .int u.2.2.2.2.1, .int u.2.2.2.2.2.1, .ref a3, .int u.2.2.2.2.2.2.2.1, .ref a4])), (a1, .inl (c1, 300, .inr (.inl u.2.1))), (a2, .inl (c2, 16, .inl u.2.2.1)), (a3, .inl (c3, 300, .inl u.2.2.2.2.2.2.1)), (a4, .inl (c4, 300, .inl u.2.2.2.2.2.2.2.2))]) u) t) (va_A [(oa, .inl (oc, 1, .inr (.inl fo))), (h0, .inr (0, [.ref a1, .ref a2, .int tk, .int ob, .int co, .ref a3, .int rc, .ref a4])), (a1, .inl (c1, 300, .inr (.inl ce))), (a2, .inl (c2, 16, .inl rg)), (a3, .inl (c3, 300, .inl re)), (a4, .inl (c4, 300, .inl np))] sz)) 1 6 (va_A [(oa, .inl (oc, 1, .inr (.inl fo))), (h0, .inr (0, [.ref a1, .ref a2, .int tk, .int ob, .int co, .ref a3, .int rc, .ref a4])), (a1, .inl (c1, 300, .inr (.inl ce))), (a2, .inl (c2, 16, .inl rg)), (a3, .inl (c3, 300, .inl re)), (a4, .inl (c4, 300, .inl np))] sz) := by
  refine va_MetW (hh := [(0, 12, 15, 13), (0, 12, 19, 15)]) (cc := cL_make) (maxL := 6) (ret := some .int) (by decide) rfl ?_
  intro p e s m args below meth c s₁ B hml hv
  obtain ⟨hargs, ⟨hsz, hP, hK, hD0, hZ⟩, hG⟩ := hv
  have hx := B.exec
  have hb := B.bytes
  have hr := B.returns
  have hts : ∀ w ∈ wb, w.before _ s = true := fun w h => atoms_spec (ws := wsL_make) B.pre w (List.mem_cons_of_mem _ h)
  have hown : s.vm.findClass RL = some m.cls := findClass_of_methodNamed B.named
  have hlocks := B.notSynchronized
  have hTab := vx_table (x := yL_make) B (atoms_spec (ws := wsL_make) B.pre _ List.mem_cons_self)
  subst hsz
  have hD := hD0.self (sz := s.heap.size)
  generalize hAe : va_A [(oa, .inl (oc, 1, .inr (.inl fo))), (h0, .inr (0, [.ref a1, .ref a2, .int tk, .int ob, .int co, .ref a3, .int rc, .ref a4])), (a1, .inl (c1, 300, .inr (.inl ce))), (a2, .inl (c2, 16, .inl rg)), (a3, .inl (c3, 300, .inl re)), (a4, .inl (c4, 300, .inl np))] s.heap.size = A at hD hZ ⊢
  have hA : ∀ q : Nat, s.heap.size ≤ q → A q := fun q h => by rw [← hAe]; exact Or.inr h
  have hS : va_S A s.heap s.heap [] := va_S.rf
  generalize hQ9 : MQ below (va_Qi (fun (a : Int32) (u : (Nat → Int64) × (Nat → Int64) × (Nat → Int32) × Int32 × Int32 × Int32 × (Nat → Int32) × Int32 × (Nat → Int32)) => a = 0 ∧ u.1 0 = (nI (hp_tk (hp_rm M n))).toInt64 ∧ ∀ o, o ∉ hp_L (hp_rm M n) → 1 ≤ o → hp_C (hp_sr (hp_mk (hp_rm M n) o k n) j o) u.2.1 u.2.2.1 u.2.2.2.1 u.2.2.2.2.1 u.2.2.2.2.2.1) (fun u t => hw_B (dC, dI) vwCl [(oc, .long), (c1, .long), (c2, .int), (c3, .int), (c4, .int)] A ((fun u : (Nat → Int64) × (Nat → Int64) × (Nat → Int32) × Int32 × Int32 × Int32 × (Nat → Int32) × Int32 × (Nat → Int32) => [(oa, .inl (oc, 1, .inr (.inl u.1))), (h0, .inr (0, [.ref a1, .ref a2, .int u.2.2.2.1, .int u.2.2.2.2.1, .int u.2.2.2.2.2.1, .ref a3, .int u.2.2.2.2.2.2.2.1, .ref a4])), (a1, .inl (c1, 300, .inr (.inl u.2.1))), (a2, .inl (c2, 16, .inl u.2.2.1)), (a3, .inl (c3, 300, .inl u.2.2.2.2.2.2.1)), (a4, .inl (c4, 300, .inl u.2.2.2.2.2.2.2.2))]) u) t) A) args s 1 6 A = Q9
  have hl := lv_entry ([.ref h0, .int (nI j), .int y, .int (nI n), .ref oa]) (n := 6) (Nat.le_of_ble_eq_true rfl)
  rw [show entryFrame m args 6 = _ from (congrArg (fun z => entryFrame m z 6) hargs).trans (lg_entry_eq m [.ref h0, .int (nI j), .int y, .int (nI n), .ref oa] 6)]
  generalize (lg_sl ([.ref h0, .int (nI j), .int y, .int (nI n), .ref oa]) ++ List.replicate (6 - (lg_sl ([.ref h0, .int (nI j), .int y, .int (nI n), .ref oa])).length) Slot.unset).toArray = ls at hl ⊢
  have hl : lv_has ls 6 [(0, .ref h0), (1, .int (nI j)), (2, .int y), (3, .int (nI n)), (4, .ref oa)] := hl
  obtain ⟨H, hH⟩ : ∃ H, H = s.heap := ⟨_, rfl⟩
  rw [← hH] at hP
  have hS : va_S A s.heap H [] := by rw [hH]; exact hS
  rw [← hH]
  generalize ([] : List Loc) = locs at hS ⊢
  refine lv_aload hx hb dL_make_0 (lv_at hl 4 rfl) ?_
  refine lv_iconst (v := 0) hx hb dL_make_2 (by decide) ?_
  refine lv_aload_n hx hb dL_make_3 rfl (lv_at hl 0 rfl) ?_
  refine lv_iload_n hx hb dL_make_4 rfl (lv_at hl 1 rfl) ?_
  refine lv_iload_n hx hb dL_make_5 rfl (lv_at hl 2 rfl) ?_
  refine lv_iload_n hx hb dL_make_6 rfl (lv_at hl 3 rfl) ?_
  have hPc := hP.sub (ws' := [(h0, .inr (0, [.ref a1, .ref a2, .int tk, .int ob, .int co, .ref a3, .int rc, .ref a4])), (a1, .inl (c1, 300, .inr (.inl ce))), (a2, .inl (c2, 16, .inl rg)), (a3, .inl (c3, 300, .inl re)), (a4, .inl (c4, 300, .inl np))]) [1, 2, 3, 4, 5] rfl
  have hDc := hD.sub (ws' := [(h0, .inr (0, [.ref a1, .ref a2, .int tk, .int ob, .int co, .ref a3, .int rc, .ref a4])), (a1, .inl (c1, 300, .inr (.inl ce))), (a2, .inl (c2, 16, .inl rg)), (a3, .inl (c3, 300, .inl re)), (a4, .inl (c4, 300, .inl np))]) [1, 2, 3, 4, 5] (by decide) rfl
  have hKc := hK.sub (tys' := [(c1, .long), (c2, .int), (c3, .int), (c4, .int)]) [1, 2, 3, 4] rfl
  refine hw_calliP (wc := [(h0, .inr (0, [.ref a1, .ref a2, .int tk, .int ob, .int co, .ref a3, .int rc, .ref a4])), (a1, .inl (c1, 300, .inr (.inl ce))), (a2, .inl (c2, 16, .inl rg)), (a3, .inl (c3, 300, .inl re)), (a4, .inl (c4, 300, .inl np))]) (wr := [(oa, .inl (oc, 1, .inr (.inl fo)))]) [1, 2, 3, 4, 5] [0] (va_runV (As := [.int (nI j), .int y, .int (nI n)]) (rest := [.int 0, .ref oa]) ⟨hx, hb, hml, hown, hts⟩ (c_X0_make l dC dI h0 a1 a2 a3 a4 c1 c2 c3 c4 ce rg tk ob co re rc np _ M hW hC j n k y hj hn hlk hfit) (cwV 3 hts gw_L_7 rfl rfl rfl ⟨rfl, by decide, by decide, by decide +kernel⟩ ⟨Nat.le_of_ble_eq_true rfl, Nat.le_of_ble_eq_true rfl⟩) ⟨hw_blind, va_recv (q0 := 0) (ci := 0) (q := (RX0, TX0, 8)) hKc hPc rfl rfl, hw_pay hPc hKc hDc⟩ rfl rfl hl.1 rfl (lv_room (Nat.le_of_ble_eq_true rfl)) dL_make_7 ⟨by decide, by decide⟩) hP hD hS hA rfl rfl (by decide) (by decide) (fun r9 u9 H locs hw hP hD hS => ?_)
  obtain ⟨ce, rg, tk, ob, co, re, rc, np⟩ := u9
  have hP : va_P (dC, dI) vwCl [(oa, .inl (oc, 1, .inr (.inl fo))), (h0, .inr (0, [.ref a1, .ref a2, .int tk, .int ob, .int co, .ref a3, .int rc, .ref a4])), (a1, .inl (c1, 300, .inr (.inl ce))), (a2, .inl (c2, 16, .inl rg)), (a3, .inl (c3, 300, .inl re)), (a4, .inl (c4, 300, .inl np))] H := hP
  have hD : va_D A [(oa, .inl (oc, 1, .inr (.inl fo))), (h0, .inr (0, [.ref a1, .ref a2, .int tk, .int ob, .int co, .ref a3, .int rc, .ref a4])), (a1, .inl (c1, 300, .inr (.inl ce))), (a2, .inl (c2, 16, .inl rg)), (a3, .inl (c3, 300, .inl re)), (a4, .inl (c4, 300, .inl np))] := hD
  obtain ⟨hr9, hall⟩ := hw
  refine hw_topi (y := nI (hp_tk (hp_rm M n))) (hr9) ?_
  refine lv_i2l hx hb dL_make_10 rfl ?_
  refine hw_last (j := 0) hx hb hK hP hD hS 0 0 rfl rfl (nI_0.symm) (by decide) (by decide) dL_make_11 (fun H locs hP hD hS => ?_)
  have hP : va_P (dC, dI) vwCl [(oa, .inl (oc, 1, .inr (.inl (vp_updL fo 0 ((nI (hp_tk (hp_rm M n))).toInt64))))), (h0, .inr (0, [.ref a1, .ref a2, .int tk, .int ob, .int co, .ref a3, .int rc, .ref a4])), (a1, .inl (c1, 300, .inr (.inl ce))), (a2, .inl (c2, 16, .inl rg)), (a3, .inl (c3, 300, .inl re)), (a4, .inl (c4, 300, .inl np))] H := hP
  have hD : va_D A [(oa, .inl (oc, 1, .inr (.inl (vp_updL fo 0 ((nI (hp_tk (hp_rm M n))).toInt64))))), (h0, .inr (0, [.ref a1, .ref a2, .int tk, .int ob, .int co, .ref a3, .int rc, .ref a4])), (a1, .inl (c1, 300, .inr (.inl ce))), (a2, .inl (c2, 16, .inl rg)), (a3, .inl (c3, 300, .inl re)), (a4, .inl (c4, 300, .inl np))] := hD
  refine lv_goto hx hb dL_make_12 (tgt := 23) (by decide) ?_
  refine lv_iconst (v := 0) hx hb dL_make_23 (by decide) ?_
  subst hQ9
  refine W.widen (k := 1) (n := 6) (by decide) (by decide) ?_
  exact W.iret (v := 0) hx hb hr (fun t ht hWm => ⟨⟨0, ((vp_updL fo 0 ((nI (hp_tk (hp_rm M n))).toInt64)), ce, rg, tk, ob, co, re, rc, np), rfl, ⟨rfl, by dsimp only; exact pk_uLs, hall⟩, by rw [ht]; exact hP, va_K.moved hWm.alike hK, hD⟩, hS.F ht⟩) hS.2.2 dL_make_24

set_option maxHeartbeats 4000000 in
set_option maxRecDepth 100000 in
theorem w1_weak (l : Launch) (dC : Nat → ClassId) (dI : Nat → Nat → Nat) (h0 a1 a2 a3 a4 : Nat) (c1 c2 c3 c4 : ClassId) (oa : Nat) (oc : ClassId) (ce : Nat → Int64) (rg : Nat → Int32) (tk ob co : Int32) (re : Nat → Int32) (rc : Int32) (np : Nat → Int32) (sz : Nat) (fo : Nat → Int64) (hl9 : l.stackTraces = false) (M : hp_S) (hW : hp_W M) (hC : hp_C M ce rg tk ob co) (r y : Int32) (k : Nat) (hk : (hp_bad r 16 ∨ hp_bad y 16) ∧ k = 1 ∨ ¬ (hp_bad r 16 ∨ hp_bad y 16) ∧ hp_at M y = 0 ∧ k = 3) : Met l yL_weak wsL_weak ({ frames := 9, cells := 1, slots := 6, locals := 165 }) (va_Pc [.ref h0, .int r, .int y, .ref oa] (hv_pre (dC, dI) vwCl [(oc, .long), (c1, .long), (c2, .int), (c3, .int), (c4, .int)] [(oa, .inl (oc, 1, .inr (.inl fo))), (h0, .inr (0, [.ref a1, .ref a2, .int tk, .int ob, .int co, .ref a3, .int rc, .ref a4])), (a1, .inl (c1, 300, .inr (.inl ce))), (a2, .inl (c2, 16, .inl rg)), (a3, .inl (c3, 300, .inl re)), (a4, .inl (c4, 300, .inl np))] sz)) (va_Qi (fun (a : Int32) (_ : Nat → Int64) => a = nI k) (fun u t => hw_B (dC, dI) vwCl [(oc, .long), (c1, .long), (c2, .int), (c3, .int), (c4, .int)] (va_A [(oa, .inl (oc, 1, .inr (.inl fo))), (h0, .inr (0, [.ref a1, .ref a2, .int tk, .int ob, .int co, .ref a3, .int rc, .ref a4])), (a1, .inl (c1, 300, .inr (.inl ce))), (a2, .inl (c2, 16, .inl rg)), (a3, .inl (c3, 300, .inl re)), (a4, .inl (c4, 300, .inl np))] sz) ((fun u : Nat → Int64 => [(oa, .inl (oc, 1, .inr (.inl u))), (h0, .inr (0, [.ref a1, .ref a2, .int tk, .int ob, .int co, .ref a3, .int rc, .ref a4])), (a1, .inl (c1, 300, .inr (.inl ce))), (a2, .inl (c2, 16, .inl rg)), (a3, .inl (c3, 300, .inl re)), (a4, .inl (c4, 300, .inl np))]) u) t) (va_A [(oa, .inl (oc, 1, .inr (.inl fo))), (h0, .inr (0, [.ref a1, .ref a2, .int tk, .int ob, .int co, .ref a3, .int rc, .ref a4])), (a1, .inl (c1, 300, .inr (.inl ce))), (a2, .inl (c2, 16, .inl rg)), (a3, .inl (c3, 300, .inl re)), (a4, .inl (c4, 300, .inl np))] sz)) 1 6 (va_A [(oa, .inl (oc, 1, .inr (.inl fo))), (h0, .inr (0, [.ref a1, .ref a2, .int tk, .int ob, .int co, .ref a3, .int rc, .ref a4])), (a1, .inl (c1, 300, .inr (.inl ce))), (a2, .inl (c2, 16, .inl rg)), (a3, .inl (c3, 300, .inl re)), (a4, .inl (c4, 300, .inl np))] sz) := by
  refine va_MetW (hh := [(0, 10, 13, 13), (0, 10, 17, 15), (0, 10, 21, 21)]) (cc := cL_weak) (maxL := 5) (ret := some .int) (by decide) rfl ?_
  intro p e s m args below meth c s₁ B hml hv
  obtain ⟨hargs, ⟨hsz, hP, hK, hD0, hZ⟩, hG⟩ := hv
  have hx := B.exec
  have hb := B.bytes
  have hr := B.returns
  have hts : ∀ w ∈ wb, w.before _ s = true := fun w h => atoms_spec (ws := wsL_weak) B.pre w (List.mem_cons_of_mem _ h)
  have hown : s.vm.findClass RL = some m.cls := findClass_of_methodNamed B.named
  have hlocks := B.notSynchronized
  have hTab := vx_table (x := yL_weak) B (atoms_spec (ws := wsL_weak) B.pre _ List.mem_cons_self)
  subst hsz
  have hD := hD0.self (sz := s.heap.size)
  generalize hAe : va_A [(oa, .inl (oc, 1, .inr (.inl fo))), (h0, .inr (0, [.ref a1, .ref a2, .int tk, .int ob, .int co, .ref a3, .int rc, .ref a4])), (a1, .inl (c1, 300, .inr (.inl ce))), (a2, .inl (c2, 16, .inl rg)), (a3, .inl (c3, 300, .inl re)), (a4, .inl (c4, 300, .inl np))] s.heap.size = A at hD hZ ⊢
  have hA : ∀ q : Nat, s.heap.size ≤ q → A q := fun q h => by rw [← hAe]; exact Or.inr h
  have hS : va_S A s.heap s.heap [] := va_S.rf
  generalize hQ9 : MQ below (va_Qi (fun (a : Int32) (_ : Nat → Int64) => a = nI k) (fun u t => hw_B (dC, dI) vwCl [(oc, .long), (c1, .long), (c2, .int), (c3, .int), (c4, .int)] A ((fun u : Nat → Int64 => [(oa, .inl (oc, 1, .inr (.inl u))), (h0, .inr (0, [.ref a1, .ref a2, .int tk, .int ob, .int co, .ref a3, .int rc, .ref a4])), (a1, .inl (c1, 300, .inr (.inl ce))), (a2, .inl (c2, 16, .inl rg)), (a3, .inl (c3, 300, .inl re)), (a4, .inl (c4, 300, .inl np))]) u) t) A) args s 1 6 A = Q9
  have hl := lv_entry ([.ref h0, .int r, .int y, .ref oa]) (n := 5) (Nat.le_of_ble_eq_true rfl)
  rw [show entryFrame m args 5 = _ from (congrArg (fun z => entryFrame m z 5) hargs).trans (lg_entry_eq m [.ref h0, .int r, .int y, .ref oa] 5)]
  generalize (lg_sl ([.ref h0, .int r, .int y, .ref oa]) ++ List.replicate (5 - (lg_sl ([.ref h0, .int r, .int y, .ref oa])).length) Slot.unset).toArray = ls at hl ⊢
  have hl : lv_has ls 5 [(0, .ref h0), (1, .int r), (2, .int y), (3, .ref oa)] := hl
  obtain ⟨H, hH⟩ : ∃ H, H = s.heap := ⟨_, rfl⟩
  rw [← hH] at hP
  have hS : va_S A s.heap H [] := by rw [hH]; exact hS
  rw [← hH]
  generalize ([] : List Loc) = locs at hS ⊢
  refine lv_aload_n hx hb dL_weak_0 rfl (lv_at hl 3 rfl) ?_
  refine lv_iconst (v := 0) hx hb dL_weak_1 (by decide) ?_
  refine lv_aload_n hx hb dL_weak_2 rfl (lv_at hl 0 rfl) ?_
  refine lv_iload_n hx hb dL_weak_3 rfl (lv_at hl 1 rfl) ?_
  refine lv_iload_n hx hb dL_weak_4 rfl (lv_at hl 2 rfl) ?_
  have hPc := hP.sub (ws' := [(h0, .inr (0, [.ref a1, .ref a2, .int tk, .int ob, .int co, .ref a3, .int rc, .ref a4])), (a1, .inl (c1, 300, .inr (.inl ce))), (a2, .inl (c2, 16, .inl rg)), (a3, .inl (c3, 300, .inl re)), (a4, .inl (c4, 300, .inl np))]) [1, 2, 3, 4, 5] rfl
  have hDc := hD.sub (ws' := [(h0, .inr (0, [.ref a1, .ref a2, .int tk, .int ob, .int co, .ref a3, .int rc, .ref a4])), (a1, .inl (c1, 300, .inr (.inl ce))), (a2, .inl (c2, 16, .inl rg)), (a3, .inl (c3, 300, .inl re)), (a4, .inl (c4, 300, .inl np))]) [1, 2, 3, 4, 5] (by decide) rfl
  have hKc := hK.sub (tys' := [(c1, .long), (c2, .int), (c3, .int), (c4, .int)]) [1, 2, 3, 4] rfl
  refine hx_throwsP (wc := [(h0, .inr (0, [.ref a1, .ref a2, .int tk, .int ob, .int co, .ref a3, .int rc, .ref a4])), (a1, .inl (c1, 300, .inr (.inl ce))), (a2, .inl (c2, 16, .inl rg)), (a3, .inl (c3, 300, .inl re)), (a4, .inl (c4, 300, .inl np))]) (wr := [(oa, .inl (oc, 1, .inr (.inl fo)))]) [1, 2, 3, 4, 5] [0] (vx_runV (As := [.int r, .int y]) (rest := [.int 0, .ref oa]) ⟨hx, hb, hml, hown, hts⟩ (x_X0_weak l dC dI h0 a1 a2 a3 a4 c1 c2 c3 c4 ce rg tk ob co re rc np _ hl9 M hW hC r y (hk.elim (fun h9 => h9.1.elim Or.inl (fun h8 => Or.inr (Or.inl h8))) (fun h9 => Or.inr (Or.inr h9.2.1)))) (cwV 2 hts gw_L_17 rfl rfl rfl ⟨rfl, by decide, by decide, by decide +kernel⟩ ⟨Nat.le_of_ble_eq_true rfl, Nat.le_of_ble_eq_true rfl⟩) ⟨hx_blind, va_recv (q0 := 0) (ci := 0) (q := (RX0, TX0, 8)) hKc hPc rfl rfl, hx_pay hPc hKc hDc hS hA hZ⟩ rfl rfl hl.1 rfl (lv_room (Nat.le_of_ble_eq_true rfl)) dL_weak_5 ⟨by decide, by decide⟩) hP hD hS hA rfl rfl (by decide) (by decide) (fun E ce9 q9 u9 H locs hb9 hP hD hS h1 h2 h3 => ?_)
  have hP : va_P (dC, dI) vwCl [(oa, .inl (oc, 1, .inr (.inl fo))), (h0, .inr (0, [.ref a1, .ref a2, .int tk, .int ob, .int co, .ref a3, .int rc, .ref a4])), (a1, .inl (c1, 300, .inr (.inl ce))), (a2, .inl (c2, 16, .inl rg)), (a3, .inl (c3, 300, .inl re)), (a4, .inl (c4, 300, .inl np))] H := hP
  have hD : va_D A [(oa, .inl (oc, 1, .inr (.inl fo))), (h0, .inr (0, [.ref a1, .ref a2, .int tk, .int ob, .int co, .ref a3, .int rc, .ref a4])), (a1, .inl (c1, 300, .inr (.inl ce))), (a2, .inl (c2, 16, .inl rg)), (a3, .inl (c3, 300, .inl re)), (a4, .inl (c4, 300, .inl np))] := hD
  rcases hb9 with ⟨hE, hb8⟩ | ⟨hE, hb8⟩
  · skip
    subst hE
    refine vx_catch (own := RL) (name := hz_A) (E := hz_A) hown [] ⟨0, 10, 13, 13⟩ [⟨0, 10, 17, 15⟩, ⟨0, 10, 21, 21⟩] (by rw [hTab]; rfl) (fun z hz => nomatch hz) (by decide) (by decide) (hts _ bw_cl_L_13) (va_Nw.use rfl hZ.2.2.1.1) h1 h2 h3 ?_
    refine lv_astore hx hb dL_weak_13 hl (by decide) rfl (fun ls hl => ?_)
    have hl : lv_has ls 5 [(4, .ref q9), (0, .ref h0), (1, .int r), (2, .int y), (3, .ref oa)] := hl
    refine lv_iconst (v := 1) hx hb dL_weak_15 (by decide) ?_
    subst hQ9
    refine W.widen (k := 1) (n := 6) (by decide) (by decide) ?_
    exact W.iret (v := 1) hx hb hr (fun t ht hWm => ⟨⟨1, fo, rfl, by rw [(hk.resolve_right (fun h9 => h9.1 hb8)).2]; show (1 : Int32) = nI 1; decide, by rw [ht]; exact hP, va_K.moved hWm.alike hK, hD⟩, hS.F ht⟩) hS.2.2 dL_weak_16
  · skip
    subst hE
    refine vx_catch (own := RL) (name := hz_N) (E := hz_N) hown [⟨0, 10, 13, 13⟩, ⟨0, 10, 17, 15⟩] ⟨0, 10, 21, 21⟩ [] (by rw [hTab]; rfl) (fun z hz => by
        simp only [List.mem_cons, List.not_mem_nil, or_false] at hz
        rcases hz with rfl | rfl
        · exact Or.inr ⟨by decide, _, hts _ bw_cl_L_13, hG.2.1⟩
        · exact Or.inr ⟨by decide, _, hts _ bw_cl_L_15, hG.2.2⟩) (by decide) (by decide) (hts _ bw_cl_L_21) (va_Nw.use rfl hZ.2.2.1.2.2) h1 h2 h3 ?_
    refine lv_astore hx hb dL_weak_21 hl (by decide) rfl (fun ls hl => ?_)
    have hl : lv_has ls 5 [(4, .ref q9), (0, .ref h0), (1, .int r), (2, .int y), (3, .ref oa)] := hl
    refine lv_iconst (v := 3) hx hb dL_weak_23 (by decide) ?_
    subst hQ9
    refine W.widen (k := 1) (n := 6) (by decide) (by decide) ?_
    exact W.iret (v := 3) hx hb hr (fun t ht hWm => ⟨⟨3, fo, rfl, by rw [(hk.resolve_left (fun h9 => hb8 h9.1)).2.2]; show (3 : Int32) = nI 3; decide, by rw [ht]; exact hP, va_K.moved hWm.alike hK, hD⟩, hS.F ht⟩) hS.2.2 dL_weak_24

set_option maxHeartbeats 4000000 in
set_option maxRecDepth 100000 in
theorem w2_weak (l : Launch) (dC : Nat → ClassId) (dI : Nat → Nat → Nat) (h0 a1 a2 a3 a4 : Nat) (c1 c2 c3 c4 : ClassId) (oa : Nat) (oc : ClassId) (ce : Nat → Int64) (rg : Nat → Int32) (tk ob co : Int32) (re : Nat → Int32) (rc : Int32) (np : Nat → Int32) (sz : Nat) (fo : Nat → Int64) (hl9 : l.stackTraces = false) (M : hp_S) (hW : hp_W M) (hC : hp_C M ce rg tk ob co) (j i : Nat) (hj : j < 16) (hi : i < 16) (h0n : hp_r M i ≠ 0) (hfull : ¬ hp_tk (hp_rm M 1) + (1 + 1) ≤ 300) : Met l yL_weak wsL_weak ({ frames := 9, cells := 1, slots := 6, locals := 165 }) (va_Pc [.ref h0, .int (nI j), .int (nI i), .ref oa] (hv_pre (dC, dI) vwCl [(oc, .long), (c1, .long), (c2, .int), (c3, .int), (c4, .int)] [(oa, .inl (oc, 1, .inr (.inl fo))), (h0, .inr (0, [.ref a1, .ref a2, .int tk, .int ob, .int co, .ref a3, .int rc, .ref a4])), (a1, .inl (c1, 300, .inr (.inl ce))), (a2, .inl (c2, 16, .inl rg)), (a3, .inl (c3, 300, .inl re)), (a4, .inl (c4, 300, .inl np))] sz)) (va_Qi (fun (a : Int32) (u : (Nat → Int64) × (Nat → Int64) × (Nat → Int32) × Int32 × Int32 × Int32 × (Nat → Int32) × Int32 × (Nat → Int32)) => a = 2 ∧ hp_C (hp_rm M 1) u.2.1 u.2.2.1 u.2.2.2.1 u.2.2.2.2.1 u.2.2.2.2.2.1) (fun u t => hw_B (dC, dI) vwCl [(oc, .long), (c1, .long), (c2, .int), (c3, .int), (c4, .int)] (va_A [(oa, .inl (oc, 1, .inr (.inl fo))), (h0, .inr (0, [.ref a1, .ref a2, .int tk, .int ob, .int co, .ref a3, .int rc, .ref a4])), (a1, .inl (c1, 300, .inr (.inl ce))), (a2, .inl (c2, 16, .inl rg)), (a3, .inl (c3, 300, .inl re)), (a4, .inl (c4, 300, .inl np))] sz) ((fun u : (Nat → Int64) × (Nat → Int64) × (Nat → Int32) × Int32 × Int32 × Int32 × (Nat → Int32) × Int32 × (Nat → Int32) => [(oa, .inl (oc, 1, .inr (.inl u.1))), (h0, .inr (0, [.ref a1, .ref a2, .int u.2.2.2.1, .int u.2.2.2.2.1, .int u.2.2.2.2.2.1, .ref a3, .int u.2.2.2.2.2.2.2.1, .ref a4])), (a1, .inl (c1, 300, .inr (.inl u.2.1))), (a2, .inl (c2, 16, .inl u.2.2.1)), (a3, .inl (c3, 300, .inl u.2.2.2.2.2.2.1)), (a4, .inl (c4, 300, .inl u.2.2.2.2.2.2.2.2))]) u) t) (va_A [(oa, .inl (oc, 1, .inr (.inl fo))), (h0, .inr (0, [.ref a1, .ref a2, .int tk, .int ob, .int co, .ref a3, .int rc, .ref a4])), (a1, .inl (c1, 300, .inr (.inl ce))), (a2, .inl (c2, 16, .inl rg)), (a3, .inl (c3, 300, .inl re)), (a4, .inl (c4, 300, .inl np))] sz)) 1 6 (va_A [(oa, .inl (oc, 1, .inr (.inl fo))), (h0, .inr (0, [.ref a1, .ref a2, .int tk, .int ob, .int co, .ref a3, .int rc, .ref a4])), (a1, .inl (c1, 300, .inr (.inl ce))), (a2, .inl (c2, 16, .inl rg)), (a3, .inl (c3, 300, .inl re)), (a4, .inl (c4, 300, .inl np))] sz) := by
  refine va_MetW (hh := [(0, 10, 13, 13), (0, 10, 17, 15), (0, 10, 21, 21)]) (cc := cL_weak) (maxL := 5) (ret := some .int) (by decide) rfl ?_
  intro p e s m args below meth c s₁ B hml hv
  obtain ⟨hargs, ⟨hsz, hP, hK, hD0, hZ⟩, hG⟩ := hv
  have hx := B.exec
  have hb := B.bytes
  have hr := B.returns
  have hts : ∀ w ∈ wb, w.before _ s = true := fun w h => atoms_spec (ws := wsL_weak) B.pre w (List.mem_cons_of_mem _ h)
  have hown : s.vm.findClass RL = some m.cls := findClass_of_methodNamed B.named
  have hlocks := B.notSynchronized
  have hTab := vx_table (x := yL_weak) B (atoms_spec (ws := wsL_weak) B.pre _ List.mem_cons_self)
  subst hsz
  have hD := hD0.self (sz := s.heap.size)
  generalize hAe : va_A [(oa, .inl (oc, 1, .inr (.inl fo))), (h0, .inr (0, [.ref a1, .ref a2, .int tk, .int ob, .int co, .ref a3, .int rc, .ref a4])), (a1, .inl (c1, 300, .inr (.inl ce))), (a2, .inl (c2, 16, .inl rg)), (a3, .inl (c3, 300, .inl re)), (a4, .inl (c4, 300, .inl np))] s.heap.size = A at hD hZ ⊢
  have hA : ∀ q : Nat, s.heap.size ≤ q → A q := fun q h => by rw [← hAe]; exact Or.inr h
  have hS : va_S A s.heap s.heap [] := va_S.rf
  generalize hQ9 : MQ below (va_Qi (fun (a : Int32) (u : (Nat → Int64) × (Nat → Int64) × (Nat → Int32) × Int32 × Int32 × Int32 × (Nat → Int32) × Int32 × (Nat → Int32)) => a = 2 ∧ hp_C (hp_rm M 1) u.2.1 u.2.2.1 u.2.2.2.1 u.2.2.2.2.1 u.2.2.2.2.2.1) (fun u t => hw_B (dC, dI) vwCl [(oc, .long), (c1, .long), (c2, .int), (c3, .int), (c4, .int)] A ((fun u : (Nat → Int64) × (Nat → Int64) × (Nat → Int32) × Int32 × Int32 × Int32 × (Nat → Int32) × Int32 × (Nat → Int32) => [(oa, .inl (oc, 1, .inr (.inl u.1))), (h0, .inr (0, [.ref a1, .ref a2, .int u.2.2.2.1, .int u.2.2.2.2.1, .int u.2.2.2.2.2.1, .ref a3, .int u.2.2.2.2.2.2.2.1, .ref a4])), (a1, .inl (c1, 300, .inr (.inl u.2.1))), (a2, .inl (c2, 16, .inl u.2.2.1)), (a3, .inl (c3, 300, .inl u.2.2.2.2.2.2.1)), (a4, .inl (c4, 300, .inl u.2.2.2.2.2.2.2.2))]) u) t) A) args s 1 6 A = Q9
  have hl := lv_entry ([.ref h0, .int (nI j), .int (nI i), .ref oa]) (n := 5) (Nat.le_of_ble_eq_true rfl)
  rw [show entryFrame m args 5 = _ from (congrArg (fun z => entryFrame m z 5) hargs).trans (lg_entry_eq m [.ref h0, .int (nI j), .int (nI i), .ref oa] 5)]
  generalize (lg_sl ([.ref h0, .int (nI j), .int (nI i), .ref oa]) ++ List.replicate (5 - (lg_sl ([.ref h0, .int (nI j), .int (nI i), .ref oa])).length) Slot.unset).toArray = ls at hl ⊢
  have hl : lv_has ls 5 [(0, .ref h0), (1, .int (nI j)), (2, .int (nI i)), (3, .ref oa)] := hl
  obtain ⟨H, hH⟩ : ∃ H, H = s.heap := ⟨_, rfl⟩
  rw [← hH] at hP
  have hS : va_S A s.heap H [] := by rw [hH]; exact hS
  rw [← hH]
  generalize ([] : List Loc) = locs at hS ⊢
  refine lv_aload_n hx hb dL_weak_0 rfl (lv_at hl 3 rfl) ?_
  refine lv_iconst (v := 0) hx hb dL_weak_1 (by decide) ?_
  refine lv_aload_n hx hb dL_weak_2 rfl (lv_at hl 0 rfl) ?_
  refine lv_iload_n hx hb dL_weak_3 rfl (lv_at hl 1 rfl) ?_
  refine lv_iload_n hx hb dL_weak_4 rfl (lv_at hl 2 rfl) ?_
  have hPc := hP.sub (ws' := [(h0, .inr (0, [.ref a1, .ref a2, .int tk, .int ob, .int co, .ref a3, .int rc, .ref a4])), (a1, .inl (c1, 300, .inr (.inl ce))), (a2, .inl (c2, 16, .inl rg)), (a3, .inl (c3, 300, .inl re)), (a4, .inl (c4, 300, .inl np))]) [1, 2, 3, 4, 5] rfl
  have hDc := hD.sub (ws' := [(h0, .inr (0, [.ref a1, .ref a2, .int tk, .int ob, .int co, .ref a3, .int rc, .ref a4])), (a1, .inl (c1, 300, .inr (.inl ce))), (a2, .inl (c2, 16, .inl rg)), (a3, .inl (c3, 300, .inl re)), (a4, .inl (c4, 300, .inl np))]) [1, 2, 3, 4, 5] (by decide) rfl
  have hKc := hK.sub (tys' := [(c1, .long), (c2, .int), (c3, .int), (c4, .int)]) [1, 2, 3, 4] rfl
  refine hx_throwsP (wc := [(h0, .inr (0, [.ref a1, .ref a2, .int tk, .int ob, .int co, .ref a3, .int rc, .ref a4])), (a1, .inl (c1, 300, .inr (.inl ce))), (a2, .inl (c2, 16, .inl rg)), (a3, .inl (c3, 300, .inl re)), (a4, .inl (c4, 300, .inl np))]) (wr := [(oa, .inl (oc, 1, .inr (.inl fo)))]) [1, 2, 3, 4, 5] [0] (vx_runV (As := [.int (nI j), .int (nI i)]) (rest := [.int 0, .ref oa]) ⟨hx, hb, hml, hown, hts⟩ (xf_X0_weak l dC dI h0 a1 a2 a3 a4 c1 c2 c3 c4 ce rg tk ob co re rc np _ hl9 M hW hC j i hj hi h0n hfull) (cwV 2 hts gw_L_17 rfl rfl rfl ⟨rfl, by decide, by decide, by decide +kernel⟩ ⟨Nat.le_of_ble_eq_true rfl, Nat.le_of_ble_eq_true rfl⟩) ⟨hx_blind, va_recv (q0 := 0) (ci := 0) (q := (RX0, TX0, 8)) hKc hPc rfl rfl, hx_pay hPc hKc hDc hS hA hZ⟩ rfl rfl hl.1 rfl (lv_room (Nat.le_of_ble_eq_true rfl)) dL_weak_5 ⟨by decide, by decide⟩) hP hD hS hA rfl rfl (by decide) (by decide) (fun E ce9 q9 u9 H locs hb9 hP hD hS h1 h2 h3 => ?_)
  obtain ⟨ce, rg, tk, ob, co, re, rc, np⟩ := u9
  have hP : va_P (dC, dI) vwCl [(oa, .inl (oc, 1, .inr (.inl fo))), (h0, .inr (0, [.ref a1, .ref a2, .int tk, .int ob, .int co, .ref a3, .int rc, .ref a4])), (a1, .inl (c1, 300, .inr (.inl ce))), (a2, .inl (c2, 16, .inl rg)), (a3, .inl (c3, 300, .inl re)), (a4, .inl (c4, 300, .inl np))] H := hP
  have hD : va_D A [(oa, .inl (oc, 1, .inr (.inl fo))), (h0, .inr (0, [.ref a1, .ref a2, .int tk, .int ob, .int co, .ref a3, .int rc, .ref a4])), (a1, .inl (c1, 300, .inr (.inl ce))), (a2, .inl (c2, 16, .inl rg)), (a3, .inl (c3, 300, .inl re)), (a4, .inl (c4, 300, .inl np))] := hD
  obtain ⟨hE, hC1⟩ := hb9
  subst hE
  refine vx_catch (own := RL) (name := hz_I) (E := hz_I) hown [⟨0, 10, 13, 13⟩] ⟨0, 10, 17, 15⟩ [⟨0, 10, 21, 21⟩] (by rw [hTab]; rfl) (fun z hz => by
      simp only [List.mem_cons, List.not_mem_nil, or_false] at hz
      subst hz
      exact Or.inr ⟨by decide, _, hts _ bw_cl_L_13, hG.1⟩) (by decide) (by decide) (hts _ bw_cl_L_15) (va_Nw.use rfl hZ.2.2.1.2.1) h1 h2 h3 ?_
  refine lv_astore hx hb dL_weak_17 hl (by decide) rfl (fun ls hl => ?_)
  have hl : lv_has ls 5 [(4, .ref q9), (0, .ref h0), (1, .int (nI j)), (2, .int (nI i)), (3, .ref oa)] := hl
  refine lv_iconst (v := 2) hx hb dL_weak_19 (by decide) ?_
  subst hQ9
  refine W.widen (k := 1) (n := 6) (by decide) (by decide) ?_
  exact W.iret (v := 2) hx hb hr (fun t ht hWm => ⟨⟨2, (fo, ce, rg, tk, ob, co, re, rc, np), rfl, ⟨rfl, hC1⟩, by rw [ht]; exact hP, va_K.moved hWm.alike hK, hD⟩, hS.F ht⟩) hS.2.2 dL_weak_20

set_option maxHeartbeats 4000000 in
set_option maxRecDepth 100000 in
theorem w0_weak (l : Launch) (dC : Nat → ClassId) (dI : Nat → Nat → Nat) (h0 a1 a2 a3 a4 : Nat) (c1 c2 c3 c4 : ClassId) (oa : Nat) (oc : ClassId) (ce : Nat → Int64) (rg : Nat → Int32) (tk ob co : Int32) (re : Nat → Int32) (rc : Int32) (np : Nat → Int32) (sz : Nat) (fo : Nat → Int64) (hl9 : l.stackTraces = false) (M : hp_S) (hW : hp_W M) (hC : hp_C M ce rg tk ob co) (j i : Nat) (hj : j < 16) (hi : i < 16) (h0n : hp_r M i ≠ 0) (hfit : hp_tk (hp_rm M 1) + (1 + 1) ≤ 300) : Met l yL_weak wsL_weak ({ frames := 9, cells := 1, slots := 6, locals := 165 }) (va_Pc [.ref h0, .int (nI j), .int (nI i), .ref oa] (hv_pre (dC, dI) vwCl [(oc, .long), (c1, .long), (c2, .int), (c3, .int), (c4, .int)] [(oa, .inl (oc, 1, .inr (.inl fo))), (h0, .inr (0, [.ref a1, .ref a2, .int tk, .int ob, .int co, .ref a3, .int rc, .ref a4])), (a1, .inl (c1, 300, .inr (.inl ce))), (a2, .inl (c2, 16, .inl rg)), (a3, .inl (c3, 300, .inl re)), (a4, .inl (c4, 300, .inl np))] sz)) (va_Qi (fun (a : Int32) (u : (Nat → Int64) × (Nat → Int64) × (Nat → Int32) × Int32 × Int32 × Int32 × (Nat → Int32) × Int32 × (Nat → Int32)) => a = 0 ∧ u.1 0 = (nI (hp_tk (hp_rm M 1))).toInt64 ∧ ∀ o, o ∉ hp_L (hp_rm M 1) → 1 ≤ o → hp_C (hp_sr (hp_sl (hp_mk (hp_rm M 1) o 3 1) o 0 (hp_r M i)) j o) u.2.1 u.2.2.1 u.2.2.2.1 u.2.2.2.2.1 u.2.2.2.2.2.1) (fun u t => hw_B (dC, dI) vwCl [(oc, .long), (c1, .long), (c2, .int), (c3, .int), (c4, .int)] (va_A [(oa, .inl (oc, 1, .inr (.inl fo))), (h0, .inr (0, [.ref a1, .ref a2, .int tk, .int ob, .int co, .ref a3, .int rc, .ref a4])), (a1, .inl (c1, 300, .inr (.inl ce))), (a2, .inl (c2, 16, .inl rg)), (a3, .inl (c3, 300, .inl re)), (a4, .inl (c4, 300, .inl np))] sz) ((fun u : (Nat → Int64) × (Nat → Int64) × (Nat → Int32) × Int32 × Int32 × Int32 × (Nat → Int32) × Int32 × (Nat → Int32) => [(oa, .inl (oc, 1, .inr (.inl u.1))), (h0, .inr (0, [.ref a1, .ref a2, .int u.2.2.2.1, .int u.2.2.2.2.1, .int u.2.2.2.2.2.1, .ref a3, .int u.2.2.2.2.2.2.2.1, .ref a4])), (a1, .inl (c1, 300, .inr (.inl u.2.1))), (a2, .inl (c2, 16, .inl u.2.2.1)), (a3, .inl (c3, 300, .inl u.2.2.2.2.2.2.1)), (a4, .inl (c4, 300, .inl u.2.2.2.2.2.2.2.2))]) u) t) (va_A [(oa, .inl (oc, 1, .inr (.inl fo))), (h0, .inr (0, [.ref a1, .ref a2, .int tk, .int ob, .int co, .ref a3, .int rc, .ref a4])), (a1, .inl (c1, 300, .inr (.inl ce))), (a2, .inl (c2, 16, .inl rg)), (a3, .inl (c3, 300, .inl re)), (a4, .inl (c4, 300, .inl np))] sz)) 1 6 (va_A [(oa, .inl (oc, 1, .inr (.inl fo))), (h0, .inr (0, [.ref a1, .ref a2, .int tk, .int ob, .int co, .ref a3, .int rc, .ref a4])), (a1, .inl (c1, 300, .inr (.inl ce))), (a2, .inl (c2, 16, .inl rg)), (a3, .inl (c3, 300, .inl re)), (a4, .inl (c4, 300, .inl np))] sz) := by
  refine va_MetW (hh := [(0, 10, 13, 13), (0, 10, 17, 15), (0, 10, 21, 21)]) (cc := cL_weak) (maxL := 5) (ret := some .int) (by decide) rfl ?_
  intro p e s m args below meth c s₁ B hml hv
  obtain ⟨hargs, ⟨hsz, hP, hK, hD0, hZ⟩, hG⟩ := hv
  have hx := B.exec
  have hb := B.bytes
  have hr := B.returns
  have hts : ∀ w ∈ wb, w.before _ s = true := fun w h => atoms_spec (ws := wsL_weak) B.pre w (List.mem_cons_of_mem _ h)
  have hown : s.vm.findClass RL = some m.cls := findClass_of_methodNamed B.named
  have hlocks := B.notSynchronized
  have hTab := vx_table (x := yL_weak) B (atoms_spec (ws := wsL_weak) B.pre _ List.mem_cons_self)
  subst hsz
  have hD := hD0.self (sz := s.heap.size)
  generalize hAe : va_A [(oa, .inl (oc, 1, .inr (.inl fo))), (h0, .inr (0, [.ref a1, .ref a2, .int tk, .int ob, .int co, .ref a3, .int rc, .ref a4])), (a1, .inl (c1, 300, .inr (.inl ce))), (a2, .inl (c2, 16, .inl rg)), (a3, .inl (c3, 300, .inl re)), (a4, .inl (c4, 300, .inl np))] s.heap.size = A at hD hZ ⊢
  have hA : ∀ q : Nat, s.heap.size ≤ q → A q := fun q h => by rw [← hAe]; exact Or.inr h
  have hS : va_S A s.heap s.heap [] := va_S.rf
  generalize hQ9 : MQ below (va_Qi (fun (a : Int32) (u : (Nat → Int64) × (Nat → Int64) × (Nat → Int32) × Int32 × Int32 × Int32 × (Nat → Int32) × Int32 × (Nat → Int32)) => a = 0 ∧ u.1 0 = (nI (hp_tk (hp_rm M 1))).toInt64 ∧ ∀ o, o ∉ hp_L (hp_rm M 1) → 1 ≤ o → hp_C (hp_sr (hp_sl (hp_mk (hp_rm M 1) o 3 1) o 0 (hp_r M i)) j o) u.2.1 u.2.2.1 u.2.2.2.1 u.2.2.2.2.1 u.2.2.2.2.2.1) (fun u t => hw_B (dC, dI) vwCl [(oc, .long), (c1, .long), (c2, .int), (c3, .int), (c4, .int)] A ((fun u : (Nat → Int64) × (Nat → Int64) × (Nat → Int32) × Int32 × Int32 × Int32 × (Nat → Int32) × Int32 × (Nat → Int32) => [(oa, .inl (oc, 1, .inr (.inl u.1))), (h0, .inr (0, [.ref a1, .ref a2, .int u.2.2.2.1, .int u.2.2.2.2.1, .int u.2.2.2.2.2.1, .ref a3, .int u.2.2.2.2.2.2.2.1, .ref a4])), (a1, .inl (c1, 300, .inr (.inl u.2.1))), (a2, .inl (c2, 16, .inl u.2.2.1)), (a3, .inl (c3, 300, .inl u.2.2.2.2.2.2.1)), (a4, .inl (c4, 300, .inl u.2.2.2.2.2.2.2.2))]) u) t) A) args s 1 6 A = Q9
  have hl := lv_entry ([.ref h0, .int (nI j), .int (nI i), .ref oa]) (n := 5) (Nat.le_of_ble_eq_true rfl)
  rw [show entryFrame m args 5 = _ from (congrArg (fun z => entryFrame m z 5) hargs).trans (lg_entry_eq m [.ref h0, .int (nI j), .int (nI i), .ref oa] 5)]
  generalize (lg_sl ([.ref h0, .int (nI j), .int (nI i), .ref oa]) ++ List.replicate (5 - (lg_sl ([.ref h0, .int (nI j), .int (nI i), .ref oa])).length) Slot.unset).toArray = ls at hl ⊢
  have hl : lv_has ls 5 [(0, .ref h0), (1, .int (nI j)), (2, .int (nI i)), (3, .ref oa)] := hl
  obtain ⟨H, hH⟩ : ∃ H, H = s.heap := ⟨_, rfl⟩
  rw [← hH] at hP
  have hS : va_S A s.heap H [] := by rw [hH]; exact hS
  rw [← hH]
  generalize ([] : List Loc) = locs at hS ⊢
  refine lv_aload_n hx hb dL_weak_0 rfl (lv_at hl 3 rfl) ?_
  refine lv_iconst (v := 0) hx hb dL_weak_1 (by decide) ?_
  refine lv_aload_n hx hb dL_weak_2 rfl (lv_at hl 0 rfl) ?_
  refine lv_iload_n hx hb dL_weak_3 rfl (lv_at hl 1 rfl) ?_
  refine lv_iload_n hx hb dL_weak_4 rfl (lv_at hl 2 rfl) ?_
  have hPc := hP.sub (ws' := [(h0, .inr (0, [.ref a1, .ref a2, .int tk, .int ob, .int co, .ref a3, .int rc, .ref a4])), (a1, .inl (c1, 300, .inr (.inl ce))), (a2, .inl (c2, 16, .inl rg)), (a3, .inl (c3, 300, .inl re)), (a4, .inl (c4, 300, .inl np))]) [1, 2, 3, 4, 5] rfl
  have hDc := hD.sub (ws' := [(h0, .inr (0, [.ref a1, .ref a2, .int tk, .int ob, .int co, .ref a3, .int rc, .ref a4])), (a1, .inl (c1, 300, .inr (.inl ce))), (a2, .inl (c2, 16, .inl rg)), (a3, .inl (c3, 300, .inl re)), (a4, .inl (c4, 300, .inl np))]) [1, 2, 3, 4, 5] (by decide) rfl
  have hKc := hK.sub (tys' := [(c1, .long), (c2, .int), (c3, .int), (c4, .int)]) [1, 2, 3, 4] rfl
  refine hw_calliP (wc := [(h0, .inr (0, [.ref a1, .ref a2, .int tk, .int ob, .int co, .ref a3, .int rc, .ref a4])), (a1, .inl (c1, 300, .inr (.inl ce))), (a2, .inl (c2, 16, .inl rg)), (a3, .inl (c3, 300, .inl re)), (a4, .inl (c4, 300, .inl np))]) (wr := [(oa, .inl (oc, 1, .inr (.inl fo)))]) [1, 2, 3, 4, 5] [0] (va_runV (As := [.int (nI j), .int (nI i)]) (rest := [.int 0, .ref oa]) ⟨hx, hb, hml, hown, hts⟩ (c_X0_weak l dC dI h0 a1 a2 a3 a4 c1 c2 c3 c4 ce rg tk ob co re rc np _ M hW hC j i hj hi h0n hfit) (cwV 2 hts gw_L_17 rfl rfl rfl ⟨rfl, by decide, by decide, by decide +kernel⟩ ⟨Nat.le_of_ble_eq_true rfl, Nat.le_of_ble_eq_true rfl⟩) ⟨hw_blind, va_recv (q0 := 0) (ci := 0) (q := (RX0, TX0, 8)) hKc hPc rfl rfl, hw_pay hPc hKc hDc⟩ rfl rfl hl.1 rfl (lv_room (Nat.le_of_ble_eq_true rfl)) dL_weak_5 ⟨by decide, by decide⟩) hP hD hS hA rfl rfl (by decide) (by decide) (fun r9 u9 H locs hw hP hD hS => ?_)
  obtain ⟨ce, rg, tk, ob, co, re, rc, np⟩ := u9
  have hP : va_P (dC, dI) vwCl [(oa, .inl (oc, 1, .inr (.inl fo))), (h0, .inr (0, [.ref a1, .ref a2, .int tk, .int ob, .int co, .ref a3, .int rc, .ref a4])), (a1, .inl (c1, 300, .inr (.inl ce))), (a2, .inl (c2, 16, .inl rg)), (a3, .inl (c3, 300, .inl re)), (a4, .inl (c4, 300, .inl np))] H := hP
  have hD : va_D A [(oa, .inl (oc, 1, .inr (.inl fo))), (h0, .inr (0, [.ref a1, .ref a2, .int tk, .int ob, .int co, .ref a3, .int rc, .ref a4])), (a1, .inl (c1, 300, .inr (.inl ce))), (a2, .inl (c2, 16, .inl rg)), (a3, .inl (c3, 300, .inl re)), (a4, .inl (c4, 300, .inl np))] := hD
  obtain ⟨hr9, hall⟩ := hw
  refine hw_topi (y := nI (hp_tk (hp_rm M 1))) (hr9) ?_
  refine lv_i2l hx hb dL_weak_8 rfl ?_
  refine hw_last (j := 0) hx hb hK hP hD hS 0 0 rfl rfl (nI_0.symm) (by decide) (by decide) dL_weak_9 (fun H locs hP hD hS => ?_)
  have hP : va_P (dC, dI) vwCl [(oa, .inl (oc, 1, .inr (.inl (vp_updL fo 0 ((nI (hp_tk (hp_rm M 1))).toInt64))))), (h0, .inr (0, [.ref a1, .ref a2, .int tk, .int ob, .int co, .ref a3, .int rc, .ref a4])), (a1, .inl (c1, 300, .inr (.inl ce))), (a2, .inl (c2, 16, .inl rg)), (a3, .inl (c3, 300, .inl re)), (a4, .inl (c4, 300, .inl np))] H := hP
  have hD : va_D A [(oa, .inl (oc, 1, .inr (.inl (vp_updL fo 0 ((nI (hp_tk (hp_rm M 1))).toInt64))))), (h0, .inr (0, [.ref a1, .ref a2, .int tk, .int ob, .int co, .ref a3, .int rc, .ref a4])), (a1, .inl (c1, 300, .inr (.inl ce))), (a2, .inl (c2, 16, .inl rg)), (a3, .inl (c3, 300, .inl re)), (a4, .inl (c4, 300, .inl np))] := hD
  refine lv_goto hx hb dL_weak_10 (tgt := 25) (by decide) ?_
  refine lv_iconst (v := 0) hx hb dL_weak_25 (by decide) ?_
  subst hQ9
  refine W.widen (k := 1) (n := 6) (by decide) (by decide) ?_
  exact W.iret (v := 0) hx hb hr (fun t ht hWm => ⟨⟨0, ((vp_updL fo 0 ((nI (hp_tk (hp_rm M 1))).toInt64)), ce, rg, tk, ob, co, re, rc, np), rfl, ⟨rfl, by dsimp only; exact pk_uLs, hall⟩, by rw [ht]; exact hP, va_K.moved hWm.alike hK, hD⟩, hS.F ht⟩) hS.2.2 dL_weak_26
