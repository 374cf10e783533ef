set_option maxHeartbeats 4000000 in
set_option maxRecDepth 100000 in
theorem c_X0_checkBelow (l : Launch) {n b : Int32} (hok : ¬ (n < 0 ∨ b ≤ n)) : Met l yX0_checkBelow wsX0_checkBelow ({ frames := 0, cells := 0, slots := 0, locals := 0 }) (fun v _ => v = ([.int n, .int b] : List Value).toArray) hw_Qn 0 0 (fun _ => False) := by
  refine Met.ofW (cc := cX0_checkBelow) (maxL := 2) (ret := none) (by decide) rfl ?_
  intro p e s m args below meth c s₁ B hml hv
  subst hv
  have hx := B.exec
  have hb := B.bytes
  have hr := B.returns
  have hts : ∀ w ∈ wb, w.before _ s = true := fun w h => atoms_spec (ws := wsX0_checkBelow) B.pre w (List.mem_cons_of_mem _ h)
  have hown : s.vm.findClass RX0 = some m.cls := findClass_of_methodNamed B.named
  have hlocks := B.notSynchronized
  have hl := lv_entry ([.int n, .int b]) (n := 2) (Nat.le_of_ble_eq_true rfl)
  rw [lg_entry_eq]
  generalize (lg_sl ([.int n, .int b]) ++ List.replicate (2 - (lg_sl ([.int n, .int b])).length) Slot.unset).toArray = ls at hl ⊢
  have hl : lv_has ls 2 [(0, .int n), (1, .int b)] := hl
  refine lv_iload_n hx hb dX0_checkBelow_0 rfl (lv_at hl 0 rfl) ?_
  refine lv_if_lt hx hb dX0_checkBelow_1 (tgt := 9) (by decide) (fun hc => ?_) (fun hc => ?_)
  · exact absurd (Or.inl hc) hok
  · skip
    refine lv_iload_n hx hb dX0_checkBelow_4 rfl (lv_at hl 0 rfl) ?_
    refine lv_iload_n hx hb dX0_checkBelow_5 rfl (lv_at hl 1 rfl) ?_
    refine lv_icmp_lt hx hb dX0_checkBelow_6 (tgt := 19) (by decide) (fun hc => ?_) (fun hc => ?_)
    · skip
      exact W.vret hx hb hr (fun t ht hWm => ⟨rfl, ht⟩) (fun q h => nomatch h) dX0_checkBelow_19
    · exact absurd (Or.inr (Int32.not_lt.mp hc)) hok

set_option maxHeartbeats 4000000 in
set_option maxRecDepth 100000 in
theorem x_X0_checkBelow (l : Launch) (hl9 : l.stackTraces = false) (dC : Nat → ClassId) (dI : Nat → Nat → Nat) (sz : Nat) {n b : Int32} (hbad : n < 0 ∨ b ≤ n) : vx_Met l yX0_checkBelow wsX0_checkBelow ({ frames := 6, cells := 1, slots := 6, locals := 90 }) (va_Pc [.int n, .int b] (hx_pre (dC, dI) vwCl [] [] sz)) (fun _ _ _ _ => False) (vx_X (fun _ : Unit => True) (fun E _ _ => E = hz_A) (va_A [] sz)) 1 6 (va_A [] sz) := by
  refine vx_ofW (cc := cX0_checkBelow) (maxL := 2) (ret := none) (by decide) rfl ?_
  intro p e s m args below meth c s₁ B hml hEx hv
  obtain ⟨hargs, hsz, hP, hK, hD0, hZ⟩ := hv
  have hx := B.exec
  have hb := B.bytes
  have hr := B.returns
  have hts : ∀ w ∈ wb, w.before _ s = true := fun w h => atoms_spec (ws := wsX0_checkBelow) B.pre w (List.mem_cons_of_mem _ h)
  have hown : s.vm.findClass RX0 = some m.cls := findClass_of_methodNamed B.named
  have hlocks := B.notSynchronized
  subst hsz
  have hD := hD0.self (sz := s.heap.size)
  generalize hAe : va_A [] s.heap.size = A at hD hZ ⊢
  have hA : ∀ q : Nat, s.heap.size ≤ q → A q := fun q h => by rw [← hAe]; exact Or.inr h
  have hS : va_S A s.heap s.heap [] := va_S.rf
  generalize hQ9 : vx_MQ below (fun _ _ _ _ => False) (vx_X (fun _ : Unit => True) (fun E _ _ => E = hz_A) A) args s 1 6 A = Q9
  have hl := lv_entry ([.int n, .int b]) (n := 2) (Nat.le_of_ble_eq_true rfl)
  rw [show entryFrame m args 2 = _ from (congrArg (fun z => entryFrame m z 2) hargs).trans (lg_entry_eq m [.int n, .int b] 2)]
  generalize (lg_sl ([.int n, .int b]) ++ List.replicate (2 - (lg_sl ([.int n, .int b])).length) Slot.unset).toArray = ls at hl ⊢
  have hl : lv_has ls 2 [(0, .int n), (1, .int b)] := hl
  obtain ⟨H, hH⟩ : ∃ H, H = s.heap := ⟨_, rfl⟩
  rw [← hH] at hP
  have hS : va_S A s.heap H [] := by rw [hH]; exact hS
  rw [← hH]
  generalize ([] : List Loc) = locs at hS ⊢
  refine lv_iload_n hx hb dX0_checkBelow_0 rfl (lv_at hl 0 rfl) ?_
  refine lv_if_lt hx hb dX0_checkBelow_1 (tgt := 9) (by decide) (fun hc => ?_) (fun hc => ?_)
  · skip
    subst hQ9
    obtain ⟨q9, hq9⟩ := hZ.2.2.2.2.1
    exact vx_throwS (own := RX0) (cls := hz_A) (names := hz_up) hx hb hl9 hown (by decide +kernel) (by decide +kernel) (hts _ bw_cl_X0_76) (hts _ bw_in_java_lang_IllegalArgumentException) hq9 (hz_at80 hts hZ) (by decide +kernel) hZ.1 hZ.2.1 hS (hl.1.trans hml.symm) dX0_checkBelow_9 dX0_checkBelow_12 dX0_checkBelow_13 dX0_checkBelow_15 dX0_checkBelow_18 (fun x hx => (hEx x hx).elim) (Nat.le_of_ble_eq_true rfl) (Nat.le_of_ble_eq_true rfl) (by decide) (by decide) hlocks (fun t ha hsz hk => ⟨(), trivial, rfl, Nat.le_trans hS.1 hsz, fun q h1 h2 => (hk q (Nat.lt_of_lt_of_le h1 hS.1)).trans (hS.2.1 q h1 h2)⟩) hS.2.2 (by decide) (by decide)
  · skip
    refine lv_iload_n hx hb dX0_checkBelow_4 rfl (lv_at hl 0 rfl) ?_
    refine lv_iload_n hx hb dX0_checkBelow_5 rfl (lv_at hl 1 rfl) ?_
    refine lv_icmp_lt hx hb dX0_checkBelow_6 (tgt := 19) (by decide) (fun hc => ?_) (fun hc => ?_)
    · exact absurd hc (Int32.not_lt.mpr (hbad.resolve_left (by assumption)))
    · skip
      subst hQ9
      obtain ⟨q9, hq9⟩ := hZ.2.2.2.2.1
      exact vx_throwS (own := RX0) (cls := hz_A) (names := hz_up) hx hb hl9 hown (by decide +kernel) (by decide +kernel) (hts _ bw_cl_X0_76) (hts _ bw_in_java_lang_IllegalArgumentException) hq9 (hz_at80 hts hZ) (by decide +kernel) hZ.1 hZ.2.1 hS (hl.1.trans hml.symm) dX0_checkBelow_9 dX0_checkBelow_12 dX0_checkBelow_13 dX0_checkBelow_15 dX0_checkBelow_18 (fun x hx => (hEx x hx).elim) (Nat.le_of_ble_eq_true rfl) (Nat.le_of_ble_eq_true rfl) (by decide) (by decide) hlocks (fun t ha hsz hk => ⟨(), trivial, rfl, Nat.le_trans hS.1 hsz, fun q h1 h2 => (hk q (Nat.lt_of_lt_of_le h1 hS.1)).trans (hS.2.1 q h1 h2)⟩) hS.2.2 (by decide) (by decide)

set_option maxHeartbeats 4000000 in
set_option maxRecDepth 100000 in
theorem c_X0_checkRegister (l : Launch) {r : Int32} (hok : ¬ hp_bad r 16) : Met l yX0_checkRegister wsX0_checkRegister ({ frames := 1, cells := 0, slots := 0, locals := 21 }) (fun v _ => v = ([.int r] : List Value).toArray) hw_Qn 0 0 (fun _ => False) := by
  refine Met.ofW (cc := cX0_checkRegister) (maxL := 1) (ret := none) (by decide) rfl ?_
  intro p e s m args below meth c s₁ B hml hv
  subst hv
  have hx := B.exec
  have hb := B.bytes
  have hr := B.returns
  have hts : ∀ w ∈ wb, w.before _ s = true := fun w h => atoms_spec (ws := wsX0_checkRegister) B.pre w (List.mem_cons_of_mem _ h)
  have hown : s.vm.findClass RX0 = some m.cls := findClass_of_methodNamed B.named
  have hlocks := B.notSynchronized
  have hl := lv_entry ([.int r]) (n := 1) (Nat.le_of_ble_eq_true rfl)
  rw [lg_entry_eq]
  generalize (lg_sl ([.int r]) ++ List.replicate (1 - (lg_sl ([.int r])).length) Slot.unset).toArray = ls at hl ⊢
  have hl : lv_has ls 1 [(0, .int r)] := hl
  refine lv_iload_n hx hb dX0_checkRegister_0 rfl (lv_at hl 0 rfl) ?_
  refine lv_bipush (v := 16) hx hb dX0_checkRegister_1 (by decide) ?_
  refine hw_callN (W.runS (As := [.int r, .int 16]) (rest := []) ⟨hx, hb, hml, hown, hts⟩ (c_X0_checkBelow l hok) (va_cwS 2 hts gw_X0_46 rfl rfl rfl ⟨by decide, by decide, by decide +kernel⟩ ⟨Nat.le_of_ble_eq_true rfl, Nat.le_of_ble_eq_true rfl⟩) preEq rfl rfl hl.1 rfl (lv_room (Nat.le_of_ble_eq_true rfl)) dX0_checkRegister_3 ⟨by decide, by decide⟩) ?_
  exact W.vret hx hb hr (fun t ht hWm => ⟨rfl, ht⟩) (fun q h => nomatch h) dX0_checkRegister_6

set_option maxHeartbeats 4000000 in
set_option maxRecDepth 100000 in
theorem x_X0_checkRegister (l : Launch) (hl9 : l.stackTraces = false) (dC : Nat → ClassId) (dI : Nat → Nat → Nat) (sz : Nat) {r : Int32} (hbad : hp_bad r 16) : vx_Met l yX0_checkRegister wsX0_checkRegister ({ frames := 7, cells := 1, slots := 6, locals := 111 }) (va_Pc [.int r] (hx_pre (dC, dI) vwCl [] [] sz)) (fun _ _ _ _ => False) (vx_X (fun _ : Unit => True) (fun E _ _ => E = hz_A) (va_A [] sz)) 1 6 (va_A [] sz) := by
  refine vx_ofW (cc := cX0_checkRegister) (maxL := 1) (ret := none) (by decide) rfl ?_
  intro p e s m args below meth c s₁ B hml hEx hv
  obtain ⟨hargs, hsz, hP, hK, hD0, hZ⟩ := hv
  have hx := B.exec
  have hb := B.bytes
  have hr := B.returns
  have hts : ∀ w ∈ wb, w.before _ s = true := fun w h => atoms_spec (ws := wsX0_checkRegister) B.pre w (List.mem_cons_of_mem _ h)
  have hown : s.vm.findClass RX0 = some m.cls := findClass_of_methodNamed B.named
  have hlocks := B.notSynchronized
  subst hsz
  have hD := hD0.self (sz := s.heap.size)
  generalize hAe : va_A [] s.heap.size = A at hD hZ ⊢
  have hA : ∀ q : Nat, s.heap.size ≤ q → A q := fun q h => by rw [← hAe]; exact Or.inr h
  have hS : va_S A s.heap s.heap [] := va_S.rf
  generalize hQ9 : vx_MQ below (fun _ _ _ _ => False) (vx_X (fun _ : Unit => True) (fun E _ _ => E = hz_A) A) args s 1 6 A = Q9
  have hl := lv_entry ([.int r]) (n := 1) (Nat.le_of_ble_eq_true rfl)
  rw [show entryFrame m args 1 = _ from (congrArg (fun z => entryFrame m z 1) hargs).trans (lg_entry_eq m [.int r] 1)]
  generalize (lg_sl ([.int r]) ++ List.replicate (1 - (lg_sl ([.int r])).length) Slot.unset).toArray = ls at hl ⊢
  have hl : lv_has ls 1 [(0, .int r)] := hl
  obtain ⟨H, hH⟩ : ∃ H, H = s.heap := ⟨_, rfl⟩
  rw [← hH] at hP
  have hS : va_S A s.heap H [] := by rw [hH]; exact hS
  rw [← hH]
  generalize ([] : List Loc) = locs at hS ⊢
  refine lv_iload_n hx hb dX0_checkRegister_0 rfl (lv_at hl 0 rfl) ?_
  refine lv_bipush (v := 16) hx hb dX0_checkRegister_1 (by decide) ?_
  refine hx_throws (vx_runS (As := [.int r, .int 16]) (rest := []) ⟨hx, hb, hml, hown, hts⟩ (x_X0_checkBelow l hl9 dC dI _ hbad) (va_cwS 2 hts gw_X0_46 rfl rfl rfl ⟨by decide, by decide, by decide +kernel⟩ ⟨Nat.le_of_ble_eq_true rfl, Nat.le_of_ble_eq_true rfl⟩) ⟨hx_blind, hx_pay hx_P0 (hK.sub (tys' := []) [] rfl) hx_D0 hS hA hZ⟩ rfl rfl hl.1 rfl (lv_room (Nat.le_of_ble_eq_true rfl)) dX0_checkRegister_3 ⟨by decide, by decide⟩) hP hS hA (fun E ce9 q9 H locs hb9 hP hS h1 h2 h3 => ?_)
  subst hQ9
  exact vx_out (fun x hx => (hEx x hx).elim) hlocks h1 h2 h3 (fun t ht ha => ⟨(), trivial, hb9, hS.F ht⟩) hS.2.2 (Nat.le_of_ble_eq_true rfl) (Nat.le_of_ble_eq_true rfl)

set_option maxHeartbeats 4000000 in
set_option maxRecDepth 100000 in
theorem c_X0_checkKind (l : Launch) : Met l yX0_checkKind wsX0_checkKind ({ frames := 0, cells := 0, slots := 0, locals := 0 }) (fun v _ => v = ([.int 1] : List Value).toArray) hw_Qn 0 0 (fun _ => False) := by
  refine Met.ofW (cc := cX0_checkKind) (maxL := 1) (ret := none) (by decide) rfl ?_
  intro p e s m args below meth c s₁ B hml hv
  subst hv
  have hx := B.exec
  have hb := B.bytes
  have hr := B.returns
  have hts : ∀ w ∈ wb, w.before _ s = true := fun w h => atoms_spec (ws := wsX0_checkKind) B.pre w (List.mem_cons_of_mem _ h)
  have hown : s.vm.findClass RX0 = some m.cls := findClass_of_methodNamed B.named
  have hlocks := B.notSynchronized
  have hl := lv_entry ([.int 1]) (n := 1) (Nat.le_of_ble_eq_true rfl)
  rw [lg_entry_eq]
  generalize (lg_sl ([.int 1]) ++ List.replicate (1 - (lg_sl ([.int 1])).length) Slot.unset).toArray = ls at hl ⊢
  have hl : lv_has ls 1 [(0, .int 1)] := hl
  refine lv_iload_n hx hb dX0_checkKind_0 rfl (lv_at hl 0 rfl) ?_
  refine lv_if_ne hx hb dX0_checkKind_1 (tgt := 14) (by decide) (fun hc => ?_) (fun hc => ?_)
  · skip
    exact W.vret hx hb hr (fun t ht hWm => ⟨rfl, ht⟩) (fun q h => nomatch h) dX0_checkKind_14
  · exact absurd hc (by decide)

set_option maxHeartbeats 4000000 in
set_option maxRecDepth 100000 in
theorem x_X0_checkKind (l : Launch) (hl9 : l.stackTraces = false) (dC : Nat → ClassId) (dI : Nat → Nat → Nat) (sz : Nat) : vx_Met l yX0_checkKind wsX0_checkKind ({ frames := 6, cells := 1, slots := 6, locals := 90 }) (va_Pc [.int 0] (hx_pre (dC, dI) vwCl [] [] sz)) (fun _ _ _ _ => False) (vx_X (fun _ : Unit => True) (fun E _ _ => E = hz_A) (va_A [] sz)) 1 6 (va_A [] sz) := by
  refine vx_ofW (cc := cX0_checkKind) (maxL := 1) (ret := none) (by decide) rfl ?_
  intro p e s m args below meth c s₁ B hml hEx hv
  obtain ⟨hargs, hsz, hP, hK, hD0, hZ⟩ := hv
  have hx := B.exec
  have hb := B.bytes
  have hr := B.returns
  have hts : ∀ w ∈ wb, w.before _ s = true := fun w h => atoms_spec (ws := wsX0_checkKind) B.pre w (List.mem_cons_of_mem _ h)
  have hown : s.vm.findClass RX0 = some m.cls := findClass_of_methodNamed B.named
  have hlocks := B.notSynchronized
  subst hsz
  have hD := hD0.self (sz := s.heap.size)
  generalize hAe : va_A [] s.heap.size = A at hD hZ ⊢
  have hA : ∀ q : Nat, s.heap.size ≤ q → A q := fun q h => by rw [← hAe]; exact Or.inr h
  have hS : va_S A s.heap s.heap [] := va_S.rf
  generalize hQ9 : vx_MQ below (fun _ _ _ _ => False) (vx_X (fun _ : Unit => True) (fun E _ _ => E = hz_A) A) args s 1 6 A = Q9
  have hl := lv_entry ([.int 0]) (n := 1) (Nat.le_of_ble_eq_true rfl)
  rw [show entryFrame m args 1 = _ from (congrArg (fun z => entryFrame m z 1) hargs).trans (lg_entry_eq m [.int 0] 1)]
  generalize (lg_sl ([.int 0]) ++ List.replicate (1 - (lg_sl ([.int 0])).length) Slot.unset).toArray = ls at hl ⊢
  have hl : lv_has ls 1 [(0, .int 0)] := hl
  obtain ⟨H, hH⟩ : ∃ H, H = s.heap := ⟨_, rfl⟩
  rw [← hH] at hP
  have hS : va_S A s.heap H [] := by rw [hH]; exact hS
  rw [← hH]
  generalize ([] : List Loc) = locs at hS ⊢
  refine lv_iload_n hx hb dX0_checkKind_0 rfl (lv_at hl 0 rfl) ?_
  refine lv_if_ne hx hb dX0_checkKind_1 (tgt := 14) (by decide) (fun hc => ?_) (fun hc => ?_)
  · exact absurd rfl hc
  · skip
    subst hQ9
    obtain ⟨q9, hq9⟩ := hZ.2.2.2.2.2.1
    exact vx_throwS (own := RX0) (cls := hz_A) (names := hz_up) hx hb hl9 hown (by decide +kernel) (by decide +kernel) (hts _ bw_cl_X0_76) (hts _ bw_in_java_lang_IllegalArgumentException) hq9 (hz_at80 hts hZ) (by decide +kernel) hZ.1 hZ.2.1 hS (hl.1.trans hml.symm) dX0_checkKind_4 dX0_checkKind_7 dX0_checkKind_8 dX0_checkKind_10 dX0_checkKind_13 (fun x hx => (hEx x hx).elim) (Nat.le_of_ble_eq_true rfl) (Nat.le_of_ble_eq_true rfl) (by decide) (by decide) hlocks (fun t ha hsz hk => ⟨(), trivial, rfl, Nat.le_trans hS.1 hsz, fun q h1 h2 => (hk q (Nat.lt_of_lt_of_le h1 hS.1)).trans (hS.2.1 q h1 h2)⟩) hS.2.2 (by decide) (by decide)

set_option maxHeartbeats 4000000 in
set_option maxRecDepth 100000 in
theorem c_X0_checkNotNull (l : Launch) {x : Int32} (hok : ¬ x = -1) : Met l yX0_checkNotNull wsX0_checkNotNull ({ frames := 0, cells := 0, slots := 0, locals := 0 }) (fun v _ => v = ([.int x] : List Value).toArray) hw_Qn 0 0 (fun _ => False) := by
  refine Met.ofW (cc := cX0_checkNotNull) (maxL := 1) (ret := none) (by decide) rfl ?_
  intro p e s m args below meth c s₁ B hml hv
  subst hv
  have hx := B.exec
  have hb := B.bytes
  have hr := B.returns
  have hts : ∀ w ∈ wb, w.before _ s = true := fun w h => atoms_spec (ws := wsX0_checkNotNull) B.pre w (List.mem_cons_of_mem _ h)
  have hown : s.vm.findClass RX0 = some m.cls := findClass_of_methodNamed B.named
  have hlocks := B.notSynchronized
  have hl := lv_entry ([.int x]) (n := 1) (Nat.le_of_ble_eq_true rfl)
  rw [lg_entry_eq]
  generalize (lg_sl ([.int x]) ++ List.replicate (1 - (lg_sl ([.int x])).length) Slot.unset).toArray = ls at hl ⊢
  have hl : lv_has ls 1 [(0, .int x)] := hl
  refine lv_iload_n hx hb dX0_checkNotNull_0 rfl (lv_at hl 0 rfl) ?_
  refine lv_iconst (v := (-1)) hx hb dX0_checkNotNull_1 (by decide) ?_
  refine lv_icmp_ne hx hb dX0_checkNotNull_2 (tgt := 15) (by decide) (fun hc => ?_) (fun hc => ?_)
  · skip
    exact W.vret hx hb hr (fun t ht hWm => ⟨rfl, ht⟩) (fun q h => nomatch h) dX0_checkNotNull_15
  · exact absurd hc hok

set_option maxHeartbeats 4000000 in
set_option maxRecDepth 100000 in
theorem x_X0_checkNotNull (l : Launch) (hl9 : l.stackTraces = false) (dC : Nat → ClassId) (dI : Nat → Nat → Nat) (sz : Nat) {x : Int32} (hbad : x = -1) : vx_Met l yX0_checkNotNull wsX0_checkNotNull ({ frames := 6, cells := 1, slots := 6, locals := 90 }) (va_Pc [.int x] (hx_pre (dC, dI) vwCl [] [] sz)) (fun _ _ _ _ => False) (vx_X (fun _ : Unit => True) (fun E _ _ => E = hz_N) (va_A [] sz)) 1 6 (va_A [] sz) := by
  refine vx_ofW (cc := cX0_checkNotNull) (maxL := 1) (ret := none) (by decide) rfl ?_
  intro p e s m args below meth c s₁ B hml hEx hv
  obtain ⟨hargs, hsz, hP, hK, hD0, hZ⟩ := hv
  have hx := B.exec
  have hb := B.bytes
  have hr := B.returns
  have hts : ∀ w ∈ wb, w.before _ s = true := fun w h => atoms_spec (ws := wsX0_checkNotNull) B.pre w (List.mem_cons_of_mem _ h)
  have hown : s.vm.findClass RX0 = some m.cls := findClass_of_methodNamed B.named
  have hlocks := B.notSynchronized
  subst hsz
  have hD := hD0.self (sz := s.heap.size)
  generalize hAe : va_A [] s.heap.size = A at hD hZ ⊢
  have hA : ∀ q : Nat, s.heap.size ≤ q → A q := fun q h => by rw [← hAe]; exact Or.inr h
  have hS : va_S A s.heap s.heap [] := va_S.rf
  generalize hQ9 : vx_MQ below (fun _ _ _ _ => False) (vx_X (fun _ : Unit => True) (fun E _ _ => E = hz_N) A) args s 1 6 A = Q9
  have hl := lv_entry ([.int x]) (n := 1) (Nat.le_of_ble_eq_true rfl)
  rw [show entryFrame m args 1 = _ from (congrArg (fun z => entryFrame m z 1) hargs).trans (lg_entry_eq m [.int x] 1)]
  generalize (lg_sl ([.int x]) ++ List.replicate (1 - (lg_sl ([.int x])).length) Slot.unset).toArray = ls at hl ⊢
  have hl : lv_has ls 1 [(0, .int x)] := hl
  obtain ⟨H, hH⟩ : ∃ H, H = s.heap := ⟨_, rfl⟩
  rw [← hH] at hP
  have hS : va_S A s.heap H [] := by rw [hH]; exact hS
  rw [← hH]
  generalize ([] : List Loc) = locs at hS ⊢
  refine lv_iload_n hx hb dX0_checkNotNull_0 rfl (lv_at hl 0 rfl) ?_
  refine lv_iconst (v := (-1)) hx hb dX0_checkNotNull_1 (by decide) ?_
  refine lv_icmp_ne hx hb dX0_checkNotNull_2 (tgt := 15) (by decide) (fun hc => ?_) (fun hc => ?_)
  · exact absurd hbad hc
  · skip
    subst hQ9
    obtain ⟨q9, hq9⟩ := hZ.2.2.2.2.2.2.1
    exact hz_throw (own := RX0) (cls := hz_N) (sup := "java/lang/RuntimeException") (names := ["java/lang/Exception"]) hx hb hl9 hz_b0 hz_b1 hz_b2 hz_b5 (by decide +kernel) hown (by decide +kernel) (by decide +kernel) (hts _ bw_cl_X0_85) (hts _ bw_in_java_util_NoSuchElementException) hq9 (hz_at89 hts hZ) (by decide +kernel) hZ.1 hZ.2.1 hS (hl.1.trans hml.symm) dX0_checkNotNull_5 dX0_checkNotNull_8 dX0_checkNotNull_9 dX0_checkNotNull_11 dX0_checkNotNull_14 (fun x hx => (hEx x hx).elim) (Nat.le_of_ble_eq_true rfl) (Nat.le_of_ble_eq_true rfl) (by decide) (by decide) hlocks (fun t ha hsz hk => ⟨(), trivial, rfl, Nat.le_trans hS.1 hsz, fun q h1 h2 => (hk q (Nat.lt_of_lt_of_le h1 hS.1)).trans (hS.2.1 q h1 h2)⟩) hS.2.2 (by decide) (by decide)
