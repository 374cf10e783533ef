set_option maxHeartbeats 4000000 in
set_option maxRecDepth 100000 in
/-- planNewPlaces() -/
theorem c_X0_planNewPlaces (l : Launch) (dC : Nat → ClassId) (dI : Nat → Nat → Nat) (h0 a1 a2 a3 a4 : Nat) (c1 c2 c3 c4 : ClassId) (ce : Nat → Int64) (rg : Nat → Int32) (tk ob co : Int32) (re : Nat → Int32) (rc : Int32) (np : Nat → Int32) (sz : Nat) (M : hp_S) (hW : hp_W M) (hob : ob = nI (hp_L M).length) (hce : ∀ o ∈ hp_L M, ce (hp_pl M o) = hp_h M o) (hN : hp_N M [] (hp_L M) np) : Met l yX0_planNewPlaces wsX0_planNewPlaces ({ frames := 2, cells := 0, slots := 0, locals := 42 }) (va_Pc [.ref h0] (hw_pre (dC, dI) vwCl [(c1, .long), (c2, .int), (c3, .int), (c4, .int)] [(h0, .inr (0, [.ref a1, .ref a2, .int tk, .int ob, .int co, .ref a3, .int rc, .ref a4])), (a1, .inl (c1, 300, .inr (.inl ce))), (a2, .inl (c2, 16, .inl rg)), (a3, .inl (c3, 300, .inl re)), (a4, .inl (c4, 300, .inl np))] sz)) (va_Qi (fun (r : Int32) (u : Nat → Int32) => r = nI (hp_t (hp_z M) (hp_L2 M)) ∧ hp_N M (hp_L M) [] u) (fun u t => hw_B (dC, dI) vwCl [(c1, .long), (c2, .int), (c3, .int), (c4, .int)] (va_A [(h0, .inr (0, [.ref a1, .ref a2, .int tk, .int ob, .int co, .ref a3, .int rc, .ref a4])), (a1, .inl (c1, 300, .inr (.inl ce))), (a2, .inl (c2, 16, .inl rg)), (a3, .inl (c3, 300, .inl re)), (a4, .inl (c4, 300, .inl np))] sz) ((fun u : Nat → Int32 => [(h0, .inr (0, [.ref a1, .ref a2, .int tk, .int ob, .int co, .ref a3, .int rc, .ref a4])), (a1, .inl (c1, 300, .inr (.inl ce))), (a2, .inl (c2, 16, .inl rg)), (a3, .inl (c3, 300, .inl re)), (a4, .inl (c4, 300, .inl u))]) u) t) (va_A [(h0, .inr (0, [.ref a1, .ref a2, .int tk, .int ob, .int co, .ref a3, .int rc, .ref a4])), (a1, .inl (c1, 300, .inr (.inl ce))), (a2, .inl (c2, 16, .inl rg)), (a3, .inl (c3, 300, .inl re)), (a4, .inl (c4, 300, .inl np))] sz)) 0 0 (va_A [(h0, .inr (0, [.ref a1, .ref a2, .int tk, .int ob, .int co, .ref a3, .int rc, .ref a4])), (a1, .inl (c1, 300, .inr (.inl ce))), (a2, .inl (c2, 16, .inl rg)), (a3, .inl (c3, 300, .inl re)), (a4, .inl (c4, 300, .inl np))] sz) := by
  refine Met.ofW (cc := cX0_planNewPlaces) (maxL := 5) (ret := some .int) (by decide) rfl ?_
  intro p e s m args below meth c s₁ B hml hv
  obtain ⟨hargs, hsz, hP, hK, hD0⟩ := hv
  have hx := B.exec
  have hb := B.bytes
  have hr := B.returns
  have hts : ∀ w ∈ wb, w.before _ s = true := fun w h => atoms_spec (ws := wsX0_planNewPlaces) B.pre w (List.mem_cons_of_mem _ h)
  have hown : s.vm.findClass RX0 = some m.cls := findClass_of_methodNamed B.named
  have hlocks := B.notSynchronized
  subst hsz
  have hD := hD0.self (sz := s.heap.size)
  generalize hAe : va_A [(h0, .inr (0, [.ref a1, .ref a2, .int tk, .int ob, .int co, .ref a3, .int rc, .ref a4])), (a1, .inl (c1, 300, .inr (.inl ce))), (a2, .inl (c2, 16, .inl rg)), (a3, .inl (c3, 300, .inl re)), (a4, .inl (c4, 300, .inl np))] s.heap.size = A at hD ⊢
  have hA : ∀ q : Nat, s.heap.size ≤ q → A q := fun q h => by rw [← hAe]; exact Or.inr h
  have hS : va_S A s.heap s.heap [] := va_S.rf
  generalize hQ9 : MQ below (va_Qi (fun (r : Int32) (u : Nat → Int32) => r = nI (hp_t (hp_z M) (hp_L2 M)) ∧ hp_N M (hp_L M) [] u) (fun u t => hw_B (dC, dI) vwCl [(c1, .long), (c2, .int), (c3, .int), (c4, .int)] A ((fun u : Nat → Int32 => [(h0, .inr (0, [.ref a1, .ref a2, .int tk, .int ob, .int co, .ref a3, .int rc, .ref a4])), (a1, .inl (c1, 300, .inr (.inl ce))), (a2, .inl (c2, 16, .inl rg)), (a3, .inl (c3, 300, .inl re)), (a4, .inl (c4, 300, .inl u))]) u) t) A) args s 0 0 A = Q9
  have hl := lv_entry ([.ref h0]) (n := 5) (Nat.le_of_ble_eq_true rfl)
  rw [show entryFrame m args 5 = _ from (congrArg (fun z => entryFrame m z 5) hargs).trans (lg_entry_eq m [.ref h0] 5)]
  generalize (lg_sl ([.ref h0]) ++ List.replicate (5 - (lg_sl ([.ref h0])).length) Slot.unset).toArray = ls at hl ⊢
  have hl : lv_has ls 5 [(0, .ref h0)] := hl
  obtain ⟨H, hH⟩ : ∃ H, H = s.heap := ⟨_, rfl⟩
  rw [← hH] at hP
  have hS : va_S A s.heap H [] := by rw [hH]; exact hS
  rw [← hH]
  generalize ([] : List Loc) = locs at hS ⊢
  refine lv_iconst (v := 0) hx hb dX0_planNewPlaces_0 (by decide) ?_
  refine hw_topi (y := nI (hp_t (hp_z M) [])) (nI_0.symm) ?_
  refine lv_istore_n hx hb dX0_planNewPlaces_1 rfl hl (by decide) rfl (fun ls hl => ?_)
  have hl : lv_has ls 5 [(1, .int (nI (hp_t (hp_z M) []))), (0, .ref h0)] := hl
  refine lv_iconst (v := 0) hx hb dX0_planNewPlaces_2 (by decide) ?_
  refine hw_topi (y := nI (hp_t (hp_z M) (([] : List Nat).filter (hp_b M)))) (nI_0.symm) ?_
  refine lv_istore_n hx hb dX0_planNewPlaces_3 rfl hl (by decide) rfl (fun ls hl => ?_)
  have hl : lv_has ls 5 [(2, .int (nI (hp_t (hp_z M) (([] : List Nat).filter (hp_b M))))), (1, .int (nI (hp_t (hp_z M) []))), (0, .ref h0)] := hl
  refine lv_iconst (v := 0) hx hb dX0_planNewPlaces_4 (by decide) ?_
  refine hw_topi (y := nI ([] : List Nat).length) (nI_0.symm) ?_
  refine lv_istore_n hx hb dX0_planNewPlaces_5 rfl hl (by decide) rfl (fun ls hl => ?_)
  have hl : lv_has ls 5 [(3, .int (nI ([] : List Nat).length)), (2, .int (nI (hp_t (hp_z M) (([] : List Nat).filter (hp_b M))))), (1, .int (nI (hp_t (hp_z M) []))), (0, .ref h0)] := hl
  have loop : ∀ (n9 : Nat) (pre : List Nat) (suf : List Nat) (np : Nat → Int32) (H : Heap) (locs : List Loc) (ls : Array Slot), suf.length < n9 → (hp_L M = pre ++ suf ∧ hp_N M pre suf np) → va_P (dC, dI) vwCl [(h0, .inr (0, [.ref a1, .ref a2, .int tk, .int ob, .int co, .ref a3, .int rc, .ref a4])), (a1, .inl (c1, 300, .inr (.inl ce))), (a2, .inl (c2, 16, .inl rg)), (a3, .inl (c3, 300, .inl re)), (a4, .inl (c4, 300, .inl np))] H → va_D A [(h0, .inr (0, [.ref a1, .ref a2, .int tk, .int ob, .int co, .ref a3, .int rc, .ref a4])), (a1, .inl (c1, 300, .inr (.inl ce))), (a2, .inl (c2, 16, .inl rg)), (a3, .inl (c3, 300, .inl re)), (a4, .inl (c4, 300, .inl np))] → va_S A s.heap H locs → lv_has ls 5 [(3, .int (nI pre.length)), (2, .int (nI (hp_t (hp_z M) (pre.filter (hp_b M))))), (1, .int (nI (hp_t (hp_z M) pre))), (0, .ref h0)] → W p l e (headSpec wsX0_planNewPlaces ({ frames := 2, cells := 0, slots := 0, locals := 42 })).room s m args below meth c H locs 0 0 Q9 (F0 m 6 ls []) := by
    intro n9
    induction n9 with
    | zero => intro pre suf np H locs ls hm; exact absurd hm (Nat.not_lt_zero _)
    | succ n9 ih =>
      intro pre suf np H locs ls hm hI hP hD hS hl
      refine lv_iload_n hx hb dX0_planNewPlaces_6 rfl (lv_at hl 0 rfl) ?_
      refine lv_aload_n hx hb dX0_planNewPlaces_7 rfl (lv_at hl 3 rfl) ?_
      refine va_get (D := (dC, dI)) (ci := 0) (v := .int ob) (C := RX0) (T := TX0) (N := 8) hx hb hts inX0 hown hK hP 0 rfl rfl 3 (by decide) (hts _ bw_fl_X0_21) (fun _ h9 => h9) rfl dX0_planNewPlaces_8 ?_
      refine lv_icmp_ge hx hb dX0_planNewPlaces_11 (tgt := 54) (by decide) (fun hc => ?_) (fun hc => ?_)
      · have hlen := congrArg List.length hI.1
        rw [List.length_append] at hlen
        have hL3 := hp_L_len hW
        rw [hob] at hc
        have hs : suf = [] := List.length_eq_zero_iff.mp (by have h1 := (nI_leI (by omega) (by omega)).mp hc; omega)
        subst hs
        have hpre : hp_L M = pre := by rw [hI.1, List.append_nil]
        refine lv_iload_n hx hb dX0_planNewPlaces_54 rfl (lv_at hl 1 rfl) ?_
        subst hQ9
        exact W.iret (v := nI (hp_t (hp_z M) (pre.filter (hp_b M)))) hx hb hr (fun t ht hWm => ⟨⟨nI (hp_t (hp_z M) (pre.filter (hp_b M))), np, rfl, ⟨by unfold hp_L2; rw [hpre], by rw [hpre]; exact hI.2⟩, by rw [ht]; exact hP, va_K.moved hWm.alike hK, hD⟩, hS.F ht⟩) hS.2.2 dX0_planNewPlaces_55
      · have hlen := congrArg List.length hI.1
        rw [List.length_append] at hlen
        have hL3 := hp_L_len hW
        rw [hob] at hc
        have hs : 0 < suf.length := Nat.pos_of_ne_zero (fun h9 => hc ((nI_leI (by omega) (by omega)).mpr (by omega)))
        obtain ⟨o, suf2, rfl⟩ : ∃ o suf2, suf = o :: suf2 := by
          cases suf with
          | nil => exact absurd hs (Nat.lt_irrefl _)
          | cons o suf2 => exact ⟨o, suf2, rfl⟩
        have hpo := hp_old_at hW hI.1
        have ho : o ∈ hp_L M := by rw [hI.1]; simp
        have hlt := hp_pl_lt hW ho
        have hnb := hp_nb hW ho (by omega) (hI.2.2 o List.mem_cons_self)
        rw [hpo] at hnb
        refine lv_aload_n hx hb dX0_planNewPlaces_14 rfl (lv_at hl 3 rfl) ?_
        refine lv_iload_n hx hb dX0_planNewPlaces_15 rfl (lv_at hl 2 rfl) ?_
        refine W.callR (W.runV (As := [.int (nI (hp_t (hp_z M) pre))]) (rest := []) ⟨hx, hb, hml, hown, hts⟩ (c_X0_sizeAt l dC dI h0 a1 a2 a3 a4 c1 c2 c3 c4 ce rg tk ob co re rc np _ (by omega)) (cwV 1 hts gw_X0_121 rfl rfl rfl ⟨rfl, by decide, by decide, by decide +kernel⟩ ⟨Nat.le_of_ble_eq_true rfl, Nat.le_of_ble_eq_true rfl⟩) ⟨hw_blind, va_recv (q0 := 0) (ci := 0) (q := (RX0, TX0, 8)) hK hP rfl rfl, hw_pay hP hK hD⟩ rfl rfl hl.1 rfl (lv_room (Nat.le_of_ble_eq_true rfl)) dX0_planNewPlaces_16 ⟨by decide, by decide⟩) ?_
        refine W.eq (g2 := F0 m 19 ls [.int (1 + (ce (hp_t (hp_z M) pre)).toInt32 >>> ((2 : Int32) &&& 31))]) rfl ?_
        refine hw_topi (y := nI (1 + hp_z M o)) (by rw [← hpo]; exact hp_rsize hW ho (hce o ho)) ?_
        refine lv_istore hx hb dX0_planNewPlaces_19 hl (by decide) rfl (fun ls hl => ?_)
        have hl : lv_has ls 5 [(4, .int (nI (1 + hp_z M o))), (3, .int (nI pre.length)), (2, .int (nI (hp_t (hp_z M) (pre.filter (hp_b M))))), (1, .int (nI (hp_t (hp_z M) pre))), (0, .ref h0)] := hl
        refine lv_aload_n hx hb dX0_planNewPlaces_21 rfl (lv_at hl 4 rfl) ?_
        refine va_get (D := (dC, dI)) (ci := 0) (v := .ref a4) (C := RX0) (T := TX0) (N := 8) hx hb hts inX0 hown hK hP 0 rfl rfl 7 (by decide) (hts _ bw_fl_X0_33) (fun _ h9 => h9) rfl dX0_planNewPlaces_22 ?_
        refine lv_iload_n hx hb dX0_planNewPlaces_25 rfl (lv_at hl 3 rfl) ?_
        refine hw_iald (j := hp_t (hp_z M) pre) hx hb hK hP 4 3 rfl rfl (rfl) (by omega) (by decide) dX0_planNewPlaces_26 ?_
        refine lv_iconst (v := (-1)) hx hb dX0_planNewPlaces_27 (by decide) ?_
        refine lv_icmp_eq hx hb dX0_planNewPlaces_28 (tgt := 43) (by decide) (fun hc => ?_) (fun hc => ?_)
        · have hbo := hnb.mp hc
          rw [← hp_filter_f M pre hbo] at hl
          refine lv_iload_n hx hb dX0_planNewPlaces_43 rfl (lv_at hl 3 rfl) ?_
          refine lv_iload hx hb dX0_planNewPlaces_44 (lv_at hl 0 rfl) ?_
          refine lv_iadd hx hb dX0_planNewPlaces_46 ?_
          refine hw_topi (y := nI (hp_t (hp_z M) (pre ++ [o]))) (by rw [hp_t_snoc]; exact nI_add _ _) ?_
          refine lv_istore_n hx hb dX0_planNewPlaces_47 rfl hl (by decide) rfl (fun ls hl => ?_)
          have hl : lv_has ls 5 [(1, .int (nI (hp_t (hp_z M) (pre ++ [o])))), (4, .int (nI (1 + hp_z M o))), (3, .int (nI pre.length)), (2, .int (nI (hp_t (hp_z M) ((pre ++ [o]).filter (hp_b M))))), (0, .ref h0)] := hl
          refine lv_iinc (k := 2) (v := nI (pre ++ [o]).length) hx hb dX0_planNewPlaces_48 hl rfl (by rw [List.length_append]; exact nI_1 _) (by decide) rfl (fun ls hl => ?_)
          have hl : lv_has ls 5 [(3, .int (nI (pre ++ [o]).length)), (1, .int (nI (hp_t (hp_z M) (pre ++ [o])))), (4, .int (nI (1 + hp_z M o))), (2, .int (nI (hp_t (hp_z M) ((pre ++ [o]).filter (hp_b M))))), (0, .ref h0)] := hl
          refine lv_goto hx hb dX0_planNewPlaces_51 (tgt := 6) (by decide) ?_
          exact ih (pre ++ [o]) suf2 np H locs ls (by simp only [List.length_cons] at hm; omega) (⟨by rw [hI.1, List.append_assoc]; rfl, hp_N_f hI.2 hbo⟩) hP hD hS (lv_sub hl [0, 3, 1, 4] rfl)
        · have hbo : hp_b M o = true := Classical.byContradiction fun h9 => hc (hnb.mpr h9)
          refine lv_aload_n hx hb dX0_planNewPlaces_31 rfl (lv_at hl 4 rfl) ?_
          refine va_get (D := (dC, dI)) (ci := 0) (v := .ref a4) (C := RX0) (T := TX0) (N := 8) hx hb hts inX0 hown hK hP 0 rfl rfl 7 (by decide) (hts _ bw_fl_X0_33) (fun _ h9 => h9) rfl dX0_planNewPlaces_32 ?_
          refine lv_iload_n hx hb dX0_planNewPlaces_35 rfl (lv_at hl 3 rfl) ?_
          refine lv_iload_n hx hb dX0_planNewPlaces_36 rfl (lv_at hl 2 rfl) ?_
          refine hw_iast (j := hp_t (hp_z M) pre) hx hb hK hP hD hS 4 3 rfl rfl (rfl) (by omega) (by decide) dX0_planNewPlaces_37 (fun H locs hP hD hS => ?_)
          have hP : va_P (dC, dI) vwCl [(h0, .inr (0, [.ref a1, .ref a2, .int tk, .int ob, .int co, .ref a3, .int rc, .ref a4])), (a1, .inl (c1, 300, .inr (.inl ce))), (a2, .inl (c2, 16, .inl rg)), (a3, .inl (c3, 300, .inl re)), (a4, .inl (c4, 300, .inl (upd np (hp_t (hp_z M) pre) (nI (hp_t (hp_z M) (pre.filter (hp_b M)))))))] H := hP
          have hD : va_D A [(h0, .inr (0, [.ref a1, .ref a2, .int tk, .int ob, .int co, .ref a3, .int rc, .ref a4])), (a1, .inl (c1, 300, .inr (.inl ce))), (a2, .inl (c2, 16, .inl rg)), (a3, .inl (c3, 300, .inl re)), (a4, .inl (c4, 300, .inl (upd np (hp_t (hp_z M) pre) (nI (hp_t (hp_z M) (pre.filter (hp_b M)))))))] := hD
          refine lv_iload_n hx hb dX0_planNewPlaces_38 rfl (lv_at hl 2 rfl) ?_
          refine lv_iload hx hb dX0_planNewPlaces_39 (lv_at hl 0 rfl) ?_
          refine lv_iadd hx hb dX0_planNewPlaces_41 ?_
          refine hw_topi (y := nI (hp_t (hp_z M) ((pre ++ [o]).filter (hp_b M)))) (by rw [hp_filter_t M pre hbo, hp_t_snoc]; exact nI_add _ _) ?_
          refine lv_istore_n hx hb dX0_planNewPlaces_42 rfl hl (by decide) rfl (fun ls hl => ?_)
          have hl : lv_has ls 5 [(2, .int (nI (hp_t (hp_z M) ((pre ++ [o]).filter (hp_b M))))), (4, .int (nI (1 + hp_z M o))), (3, .int (nI pre.length)), (1, .int (nI (hp_t (hp_z M) pre))), (0, .ref h0)] := hl
          refine lv_iload_n hx hb dX0_planNewPlaces_43 rfl (lv_at hl 3 rfl) ?_
          refine lv_iload hx hb dX0_planNewPlaces_44 (lv_at hl 1 rfl) ?_
          refine lv_iadd hx hb dX0_planNewPlaces_46 ?_
          refine hw_topi (y := nI (hp_t (hp_z M) (pre ++ [o]))) (by rw [hp_t_snoc]; exact nI_add _ _) ?_
          refine lv_istore_n hx hb dX0_planNewPlaces_47 rfl hl (by decide) rfl (fun ls hl => ?_)
          have hl : lv_has ls 5 [(1, .int (nI (hp_t (hp_z M) (pre ++ [o])))), (2, .int (nI (hp_t (hp_z M) ((pre ++ [o]).filter (hp_b M))))), (4, .int (nI (1 + hp_z M o))), (3, .int (nI pre.length)), (0, .ref h0)] := hl
          refine lv_iinc (k := 3) (v := nI (pre ++ [o]).length) hx hb dX0_planNewPlaces_48 hl rfl (by rw [List.length_append]; exact nI_1 _) (by decide) rfl (fun ls hl => ?_)
          have hl : lv_has ls 5 [(3, .int (nI (pre ++ [o]).length)), (1, .int (nI (hp_t (hp_z M) (pre ++ [o])))), (2, .int (nI (hp_t (hp_z M) ((pre ++ [o]).filter (hp_b M))))), (4, .int (nI (1 + hp_z M o))), (0, .ref h0)] := hl
          refine lv_goto hx hb dX0_planNewPlaces_51 (tgt := 6) (by decide) ?_
          exact ih (pre ++ [o]) suf2 (upd np (hp_t (hp_z M) pre) (nI (hp_t (hp_z M) (pre.filter (hp_b M))))) H locs ls (by simp only [List.length_cons] at hm; omega) (⟨by rw [hI.1, List.append_assoc]; rfl, by have h9 := hp_N_t hW hI.1 hI.2 hbo; rw [hpo] at h9; exact h9⟩) hP hD hS (lv_sub hl [0, 2, 1, 4] rfl)
  exact loop _ ([]) (hp_L M) np H locs ls (Nat.lt_succ_self _) (⟨rfl, hN⟩) hP hD hS (lv_sub hl [0, 1, 2, 3] rfl)

set_option maxHeartbeats 4000000 in
set_option maxRecDepth 100000 in
/-- redirectRegisters() -/
theorem c_X0_redirectRegisters (l : Launch) (dC : Nat → ClassId) (dI : Nat → Nat → Nat) (h0 a1 a2 a3 a4 : Nat) (c1 c2 c3 c4 : ClassId) (ce : Nat → Int64) (rg : Nat → Int32) (tk ob co : Int32) (re : Nat → Int32) (rc : Int32) (np : Nat → Int32) (sz : Nat) (M : hp_S) (hW : hp_W M) (hrg : ∀ r, r < 16 → rg r = hp_e M (hp_r M r)) (hN : hp_N M (hp_L M) [] np) : Met l yX0_redirectRegisters wsX0_redirectRegisters ({ frames := 1, cells := 0, slots := 0, locals := 21 }) (va_Pc [.ref h0] (hw_pre (dC, dI) vwCl [(c1, .long), (c2, .int), (c3, .int), (c4, .int)] [(h0, .inr (0, [.ref a1, .ref a2, .int tk, .int ob, .int co, .ref a3, .int rc, .ref a4])), (a1, .inl (c1, 300, .inr (.inl ce))), (a2, .inl (c2, 16, .inl rg)), (a3, .inl (c3, 300, .inl re)), (a4, .inl (c4, 300, .inl np))] sz)) (va_Qv (fun u : Nat → Int32 => ∀ r, r < 16 → u r = hp_e (hp_col M) (hp_r (hp_col M) r)) (fun u t => hw_B (dC, dI) vwCl [(c1, .long), (c2, .int), (c3, .int), (c4, .int)] (va_A [(h0, .inr (0, [.ref a1, .ref a2, .int tk, .int ob, .int co, .ref a3, .int rc, .ref a4])), (a1, .inl (c1, 300, .inr (.inl ce))), (a2, .inl (c2, 16, .inl rg)), (a3, .inl (c3, 300, .inl re)), (a4, .inl (c4, 300, .inl np))] sz) ((fun u : Nat → Int32 => [(h0, .inr (0, [.ref a1, .ref a2, .int tk, .int ob, .int co, .ref a3, .int rc, .ref a4])), (a1, .inl (c1, 300, .inr (.inl ce))), (a2, .inl (c2, 16, .inl u)), (a3, .inl (c3, 300, .inl re)), (a4, .inl (c4, 300, .inl np))]) u) t) (va_A [(h0, .inr (0, [.ref a1, .ref a2, .int tk, .int ob, .int co, .ref a3, .int rc, .ref a4])), (a1, .inl (c1, 300, .inr (.inl ce))), (a2, .inl (c2, 16, .inl rg)), (a3, .inl (c3, 300, .inl re)), (a4, .inl (c4, 300, .inl np))] sz)) 0 0 (va_A [(h0, .inr (0, [.ref a1, .ref a2, .int tk, .int ob, .int co, .ref a3, .int rc, .ref a4])), (a1, .inl (c1, 300, .inr (.inl ce))), (a2, .inl (c2, 16, .inl rg)), (a3, .inl (c3, 300, .inl re)), (a4, .inl (c4, 300, .inl np))] sz) := by
  refine Met.ofW (cc := cX0_redirectRegisters) (maxL := 2) (ret := none) (by decide) rfl ?_
  intro p e s m args below meth c s₁ B hml hv
  obtain ⟨hargs, hsz, hP, hK, hD0⟩ := hv
  have hx := B.exec
  have hb := B.bytes
  have hr := B.returns
  have hts : ∀ w ∈ wb, w.before _ s = true := fun w h => atoms_spec (ws := wsX0_redirectRegisters) B.pre w (List.mem_cons_of_mem _ h)
  have hown : s.vm.findClass RX0 = some m.cls := findClass_of_methodNamed B.named
  have hlocks := B.notSynchronized
  subst hsz
  have hD := hD0.self (sz := s.heap.size)
  generalize hAe : va_A [(h0, .inr (0, [.ref a1, .ref a2, .int tk, .int ob, .int co, .ref a3, .int rc, .ref a4])), (a1, .inl (c1, 300, .inr (.inl ce))), (a2, .inl (c2, 16, .inl rg)), (a3, .inl (c3, 300, .inl re)), (a4, .inl (c4, 300, .inl np))] s.heap.size = A at hD ⊢
  have hA : ∀ q : Nat, s.heap.size ≤ q → A q := fun q h => by rw [← hAe]; exact Or.inr h
  have hS : va_S A s.heap s.heap [] := va_S.rf
  generalize hQ9 : MQ below (va_Qv (fun u : Nat → Int32 => ∀ r, r < 16 → u r = hp_e (hp_col M) (hp_r (hp_col M) r)) (fun u t => hw_B (dC, dI) vwCl [(c1, .long), (c2, .int), (c3, .int), (c4, .int)] A ((fun u : Nat → Int32 => [(h0, .inr (0, [.ref a1, .ref a2, .int tk, .int ob, .int co, .ref a3, .int rc, .ref a4])), (a1, .inl (c1, 300, .inr (.inl ce))), (a2, .inl (c2, 16, .inl u)), (a3, .inl (c3, 300, .inl re)), (a4, .inl (c4, 300, .inl np))]) u) t) A) args s 0 0 A = Q9
  have hl := lv_entry ([.ref h0]) (n := 2) (Nat.le_of_ble_eq_true rfl)
  rw [show entryFrame m args 2 = _ from (congrArg (fun z => entryFrame m z 2) hargs).trans (lg_entry_eq m [.ref h0] 2)]
  generalize (lg_sl ([.ref h0]) ++ List.replicate (2 - (lg_sl ([.ref h0])).length) Slot.unset).toArray = ls at hl ⊢
  have hl : lv_has ls 2 [(0, .ref h0)] := hl
  obtain ⟨H, hH⟩ : ∃ H, H = s.heap := ⟨_, rfl⟩
  rw [← hH] at hP
  have hS : va_S A s.heap H [] := by rw [hH]; exact hS
  rw [← hH]
  generalize ([] : List Loc) = locs at hS ⊢
  refine lv_iconst (v := 0) hx hb dX0_redirectRegisters_0 (by decide) ?_
  refine hw_topi (y := nI 0) (nI_0.symm) ?_
  refine lv_istore_n hx hb dX0_redirectRegisters_1 rfl hl (by decide) rfl (fun ls hl => ?_)
  have hl : lv_has ls 2 [(1, .int (nI 0)), (0, .ref h0)] := hl
  have loop : ∀ (n9 : Nat) (k : Nat) (rg : Nat → Int32) (H : Heap) (locs : List Loc) (ls : Array Slot), 16 - k < n9 → (k ≤ 16 ∧ (∀ r, r < k → rg r = hp_e (hp_col M) (hp_r (hp_col M) r)) ∧ ∀ r, k ≤ r → r < 16 → rg r = hp_e M (hp_r M r)) → va_P (dC, dI) vwCl [(h0, .inr (0, [.ref a1, .ref a2, .int tk, .int ob, .int co, .ref a3, .int rc, .ref a4])), (a1, .inl (c1, 300, .inr (.inl ce))), (a2, .inl (c2, 16, .inl rg)), (a3, .inl (c3, 300, .inl re)), (a4, .inl (c4, 300, .inl np))] H → va_D A [(h0, .inr (0, [.ref a1, .ref a2, .int tk, .int ob, .int co, .ref a3, .int rc, .ref a4])), (a1, .inl (c1, 300, .inr (.inl ce))), (a2, .inl (c2, 16, .inl rg)), (a3, .inl (c3, 300, .inl re)), (a4, .inl (c4, 300, .inl np))] → va_S A s.heap H locs → lv_has ls 2 [(1, .int (nI k)), (0, .ref h0)] → W p l e (headSpec wsX0_redirectRegisters ({ frames := 1, cells := 0, slots := 0, locals := 21 })).room s m args below meth c H locs 0 0 Q9 (F0 m 2 ls []) := by
    intro n9
    induction n9 with
    | zero => intro k rg H locs ls hm; exact absurd hm (Nat.not_lt_zero _)
    | succ n9 ih =>
      intro k rg H locs ls hm hI hP hD hS hl
      refine lv_iload_n hx hb dX0_redirectRegisters_2 rfl (lv_at hl 0 rfl) ?_
      refine lv_bipush (v := 16) hx hb dX0_redirectRegisters_3 (by decide) ?_
      refine lv_icmp_ge hx hb dX0_redirectRegisters_5 (tgt := 30) (by decide) (fun hc => ?_) (fun hc => ?_)
      · have hk : k = 16 := by
          have h1 := (nI_leI (a := 16) (by decide) (by omega)).mp hc
          omega
        subst hk
        subst hQ9
        exact W.vret hx hb hr (fun t ht hWm => ⟨⟨rg, rfl, hI.2.1, by rw [ht]; exact hP, va_K.moved hWm.alike hK, hD⟩, hS.F ht⟩) hS.2.2 dX0_redirectRegisters_30
      · have hk : k < 16 := Nat.lt_of_not_le (fun h9 => hc ((nI_leI (a := 16) (by decide) (by omega)).mpr h9))
        refine lv_aload_n hx hb dX0_redirectRegisters_8 rfl (lv_at hl 1 rfl) ?_
        refine va_get (D := (dC, dI)) (ci := 0) (v := .ref a2) (C := RX0) (T := TX0) (N := 8) hx hb hts inX0 hown hK hP 0 rfl rfl 1 (by decide) (hts _ bw_fl_X0_13) (fun _ h9 => h9) rfl dX0_redirectRegisters_9 ?_
        refine lv_iload_n hx hb dX0_redirectRegisters_12 rfl (lv_at hl 0 rfl) ?_
        refine lv_aload_n hx hb dX0_redirectRegisters_13 rfl (lv_at hl 1 rfl) ?_
        refine lv_aload_n hx hb dX0_redirectRegisters_14 rfl (lv_at hl 1 rfl) ?_
        refine va_get (D := (dC, dI)) (ci := 0) (v := .ref a2) (C := RX0) (T := TX0) (N := 8) hx hb hts inX0 hown hK hP 0 rfl rfl 1 (by decide) (hts _ bw_fl_X0_13) (fun _ h9 => h9) rfl dX0_redirectRegisters_15 ?_
        refine lv_iload_n hx hb dX0_redirectRegisters_18 rfl (lv_at hl 0 rfl) ?_
        refine hw_iald (j := k) hx hb hK hP 2 1 rfl rfl (rfl) (hk) (by decide) dX0_redirectRegisters_19 ?_
        refine hw_topi (y := hp_e M (hp_r M k)) (hI.2.2 k (Nat.le_refl _) hk) ?_
        refine W.callR (W.runV (As := [.int (hp_e M (hp_r M k))]) (rest := [.int (nI k), .ref a2]) ⟨hx, hb, hml, hown, hts⟩ (c_X0_newPlaceOf l dC dI h0 a1 a2 a3 a4 c1 c2 c3 c4 ce rg tk ob co re rc np _ (hp_e_ix hW (hW.2.2.2.1 k hk))) (cwV 1 hts gw_X0_124 rfl rfl rfl ⟨rfl, by decide, by decide, by decide +kernel⟩ ⟨Nat.le_of_ble_eq_true rfl, Nat.le_of_ble_eq_true rfl⟩) ⟨hw_blind, va_recv (q0 := 0) (ci := 0) (q := (RX0, TX0, 8)) hK hP rfl rfl, hw_pay hP hK hD⟩ rfl rfl hl.1 rfl (lv_room (Nat.le_of_ble_eq_true rfl)) dX0_redirectRegisters_20 ⟨by decide, by decide⟩) ?_
        refine W.eq (g2 := F0 m 23 ls [.int (hp_nw np (hp_e M (hp_r M k))), .int (nI k), .ref a2]) rfl ?_
        refine hw_topi (y := hp_e (hp_col M) (hp_r (hp_col M) k)) (hp_nw_reg hW hN hk) ?_
        refine hw_iast (j := k) hx hb hK hP hD hS 2 1 rfl rfl (rfl) (hk) (by decide) dX0_redirectRegisters_23 (fun H locs hP hD hS => ?_)
        have hP : va_P (dC, dI) vwCl [(h0, .inr (0, [.ref a1, .ref a2, .int tk, .int ob, .int co, .ref a3, .int rc, .ref a4])), (a1, .inl (c1, 300, .inr (.inl ce))), (a2, .inl (c2, 16, .inl (upd rg k (hp_e (hp_col M) (hp_r (hp_col M) k))))), (a3, .inl (c3, 300, .inl re)), (a4, .inl (c4, 300, .inl np))] H := hP
        have hD : va_D A [(h0, .inr (0, [.ref a1, .ref a2, .int tk, .int ob, .int co, .ref a3, .int rc, .ref a4])), (a1, .inl (c1, 300, .inr (.inl ce))), (a2, .inl (c2, 16, .inl (upd rg k (hp_e (hp_col M) (hp_r (hp_col M) k))))), (a3, .inl (c3, 300, .inl re)), (a4, .inl (c4, 300, .inl np))] := hD
        refine lv_iinc (k := 0) (v := nI (k + 1)) hx hb dX0_redirectRegisters_24 hl rfl (nI_1 k) (by decide) rfl (fun ls hl => ?_)
        have hl : lv_has ls 2 [(1, .int (nI (k + 1))), (0, .ref h0)] := hl
        refine lv_goto hx hb dX0_redirectRegisters_27 (tgt := 2) (by decide) ?_
        exact ih (k + 1) (upd rg k (hp_e (hp_col M) (hp_r (hp_col M) k))) H locs ls (by omega) (⟨hk, fun r hr => by
            by_cases e9 : r = k
            · subst e9; exact pk_us
            · rw [pk_un e9]; exact hI.2.1 r (by omega), fun r h1 h2 => by rw [pk_un (by omega)]; exact hI.2.2 r (by omega) h2⟩) hP hD hS (lv_sub hl [0, 1] rfl)
  exact loop _ 0 rg H locs ls (Nat.lt_succ_self _) (⟨Nat.zero_le _, fun r hr => absurd hr (Nat.not_lt_zero _), fun r _ hr => hrg r hr⟩) hP hD hS (lv_sub hl [0, 1] rfl)

set_option maxHeartbeats 4000000 in
set_option maxRecDepth 100000 in
/-- redirectContentsAt(place) -/
theorem c_X0_redirectContentsAt (l : Launch) (dC : Nat → ClassId) (dI : Nat → Nat → Nat) (h0 a1 a2 a3 a4 : Nat) (c1 c2 c3 c4 : ClassId) (ce : Nat → Int64) (rg : Nat → Int32) (tk ob co : Int32) (re : Nat → Int32) (rc : Int32) (np : Nat → Int32) (sz : Nat) (M : hp_S) (hW : hp_W M) (o : Nat) (ho : o ∈ hp_L M) (hh : ce (hp_pl M o) = hp_h M o) (hr9 : ∀ i, i < hp_z M o → (ce (hp_pl M o + 1 + i)).toInt32 = -1 ∨ ∃ j : Nat, j < 300 ∧ (ce (hp_pl M o + 1 + i)).toInt32 = nI j) : Met l yX0_redirectContentsAt wsX0_redirectContentsAt ({ frames := 2, cells := 0, slots := 0, locals := 42 }) (va_Pc [.ref h0, .int (nI (hp_pl M o))] (hw_pre (dC, dI) vwCl [(c1, .long), (c2, .int), (c3, .int), (c4, .int)] [(h0, .inr (0, [.ref a1, .ref a2, .int tk, .int ob, .int co, .ref a3, .int rc, .ref a4])), (a1, .inl (c1, 300, .inr (.inl ce))), (a2, .inl (c2, 16, .inl rg)), (a3, .inl (c3, 300, .inl re)), (a4, .inl (c4, 300, .inl np))] sz)) (va_Qv (fun u : Nat → Int64 => u = hp_rd np ce (hp_pl M o + 1) (hp_pl M o + 1 + hp_z M o)) (fun u t => hw_B (dC, dI) vwCl [(c1, .long), (c2, .int), (c3, .int), (c4, .int)] (va_A [(h0, .inr (0, [.ref a1, .ref a2, .int tk, .int ob, .int co, .ref a3, .int rc, .ref a4])), (a1, .inl (c1, 300, .inr (.inl ce))), (a2, .inl (c2, 16, .inl rg)), (a3, .inl (c3, 300, .inl re)), (a4, .inl (c4, 300, .inl np))] sz) ((fun u : Nat → Int64 => [(h0, .inr (0, [.ref a1, .ref a2, .int tk, .int ob, .int co, .ref a3, .int rc, .ref a4])), (a1, .inl (c1, 300, .inr (.inl u))), (a2, .inl (c2, 16, .inl rg)), (a3, .inl (c3, 300, .inl re)), (a4, .inl (c4, 300, .inl np))]) u) t) (va_A [(h0, .inr (0, [.ref a1, .ref a2, .int tk, .int ob, .int co, .ref a3, .int rc, .ref a4])), (a1, .inl (c1, 300, .inr (.inl ce))), (a2, .inl (c2, 16, .inl rg)), (a3, .inl (c3, 300, .inl re)), (a4, .inl (c4, 300, .inl np))] sz)) 0 0 (va_A [(h0, .inr (0, [.ref a1, .ref a2, .int tk, .int ob, .int co, .ref a3, .int rc, .ref a4])), (a1, .inl (c1, 300, .inr (.inl ce))), (a2, .inl (c2, 16, .inl rg)), (a3, .inl (c3, 300, .inl re)), (a4, .inl (c4, 300, .inl np))] sz) := by
  refine Met.ofW (cc := cX0_redirectContentsAt) (maxL := 4) (ret := none) (by decide) rfl ?_
  intro p e s m args below meth c s₁ B hml hv
  obtain ⟨hargs, hsz, hP, hK, hD0⟩ := hv
  have hx := B.exec
  have hb := B.bytes
  have hr := B.returns
  have hts : ∀ w ∈ wb, w.before _ s = true := fun w h => atoms_spec (ws := wsX0_redirectContentsAt) B.pre w (List.mem_cons_of_mem _ h)
  have hown : s.vm.findClass RX0 = some m.cls := findClass_of_methodNamed B.named
  have hlocks := B.notSynchronized
  subst hsz
  have hD := hD0.self (sz := s.heap.size)
  generalize hAe : va_A [(h0, .inr (0, [.ref a1, .ref a2, .int tk, .int ob, .int co, .ref a3, .int rc, .ref a4])), (a1, .inl (c1, 300, .inr (.inl ce))), (a2, .inl (c2, 16, .inl rg)), (a3, .inl (c3, 300, .inl re)), (a4, .inl (c4, 300, .inl np))] s.heap.size = A at hD ⊢
  have hA : ∀ q : Nat, s.heap.size ≤ q → A q := fun q h => by rw [← hAe]; exact Or.inr h
  have hS : va_S A s.heap s.heap [] := va_S.rf
  generalize hQ9 : MQ below (va_Qv (fun u : Nat → Int64 => u = hp_rd np ce (hp_pl M o + 1) (hp_pl M o + 1 + hp_z M o)) (fun u t => hw_B (dC, dI) vwCl [(c1, .long), (c2, .int), (c3, .int), (c4, .int)] A ((fun u : Nat → Int64 => [(h0, .inr (0, [.ref a1, .ref a2, .int tk, .int ob, .int co, .ref a3, .int rc, .ref a4])), (a1, .inl (c1, 300, .inr (.inl u))), (a2, .inl (c2, 16, .inl rg)), (a3, .inl (c3, 300, .inl re)), (a4, .inl (c4, 300, .inl np))]) u) t) A) args s 0 0 A = Q9
  have hl := lv_entry ([.ref h0, .int (nI (hp_pl M o))]) (n := 4) (Nat.le_of_ble_eq_true rfl)
  rw [show entryFrame m args 4 = _ from (congrArg (fun z => entryFrame m z 4) hargs).trans (lg_entry_eq m [.ref h0, .int (nI (hp_pl M o))] 4)]
  generalize (lg_sl ([.ref h0, .int (nI (hp_pl M o))]) ++ List.replicate (4 - (lg_sl ([.ref h0, .int (nI (hp_pl M o))])).length) Slot.unset).toArray = ls at hl ⊢
  have hl : lv_has ls 4 [(0, .ref h0), (1, .int (nI (hp_pl M o)))] := hl
  obtain ⟨H, hH⟩ : ∃ H, H = s.heap := ⟨_, rfl⟩
  rw [← hH] at hP
  have hS : va_S A s.heap H [] := by rw [hH]; exact hS
  rw [← hH]
  generalize ([] : List Loc) = locs at hS ⊢
  have hlt := hp_pl_lt hW ho
  refine lv_iload_n hx hb dX0_redirectContentsAt_0 rfl (lv_at hl 1 rfl) ?_
  refine lv_aload_n hx hb dX0_redirectContentsAt_1 rfl (lv_at hl 0 rfl) ?_
  refine lv_iload_n hx hb dX0_redirectContentsAt_2 rfl (lv_at hl 1 rfl) ?_
  refine W.callR (W.runV (As := [.int (nI (hp_pl M o))]) (rest := [.int (nI (hp_pl M o))]) ⟨hx, hb, hml, hown, hts⟩ (c_X0_sizeAt l dC dI h0 a1 a2 a3 a4 c1 c2 c3 c4 ce rg tk ob co re rc np _ (by omega)) (cwV 1 hts gw_X0_121 rfl rfl rfl ⟨rfl, by decide, by decide, by decide +kernel⟩ ⟨Nat.le_of_ble_eq_true rfl, Nat.le_of_ble_eq_true rfl⟩) ⟨hw_blind, va_recv (q0 := 0) (ci := 0) (q := (RX0, TX0, 8)) hK hP rfl rfl, hw_pay hP hK hD⟩ rfl rfl hl.1 rfl (lv_room (Nat.le_of_ble_eq_true rfl)) dX0_redirectContentsAt_3 ⟨by decide, by decide⟩) ?_
  refine W.eq (g2 := F0 m 6 ls [.int (1 + (ce (hp_pl M o)).toInt32 >>> ((2 : Int32) &&& 31)), .int (nI (hp_pl M o))]) rfl ?_
  refine hw_topi (y := nI (1 + hp_z M o)) (hp_rsize hW ho hh) ?_
  refine lv_iadd hx hb dX0_redirectContentsAt_6 ?_
  refine hw_topi (y := nI (hp_pl M o + (1 + hp_z M o))) (nI_add _ _) ?_
  refine lv_istore_n hx hb dX0_redirectContentsAt_7 rfl hl (by decide) rfl (fun ls hl => ?_)
  have hl : lv_has ls 4 [(2, .int (nI (hp_pl M o + (1 + hp_z M o)))), (0, .ref h0), (1, .int (nI (hp_pl M o)))] := hl
  refine lv_iload_n hx hb dX0_redirectContentsAt_8 rfl (lv_at hl 2 rfl) ?_
  refine lv_iconst (v := 1) hx hb dX0_redirectContentsAt_9 (by decide) ?_
  refine lv_iadd hx hb dX0_redirectContentsAt_10 ?_
  refine hw_topi (y := nI (hp_pl M o + 1 + 0)) (nI_1 _) ?_
  refine lv_istore_n hx hb dX0_redirectContentsAt_11 rfl hl (by decide) rfl (fun ls hl => ?_)
  have hl : lv_has ls 4 [(3, .int (nI (hp_pl M o + 1 + 0))), (2, .int (nI (hp_pl M o + (1 + hp_z M o)))), (0, .ref h0), (1, .int (nI (hp_pl M o)))] := hl
  rw [show ce = hp_rd np ce (hp_pl M o + 1) (hp_pl M o + 1 + 0) from (hp_rd_0 np ce _).symm] at hP hD
  have loop : ∀ (n9 : Nat) (i : Nat) (H : Heap) (locs : List Loc) (ls : Array Slot), hp_z M o - i < n9 → (i ≤ hp_z M o) → va_P (dC, dI) vwCl [(h0, .inr (0, [.ref a1, .ref a2, .int tk, .int ob, .int co, .ref a3, .int rc, .ref a4])), (a1, .inl (c1, 300, .inr (.inl (hp_rd np ce (hp_pl M o + 1) (hp_pl M o + 1 + i))))), (a2, .inl (c2, 16, .inl rg)), (a3, .inl (c3, 300, .inl re)), (a4, .inl (c4, 300, .inl np))] H → va_D A [(h0, .inr (0, [.ref a1, .ref a2, .int tk, .int ob, .int co, .ref a3, .int rc, .ref a4])), (a1, .inl (c1, 300, .inr (.inl (hp_rd np ce (hp_pl M o + 1) (hp_pl M o + 1 + i))))), (a2, .inl (c2, 16, .inl rg)), (a3, .inl (c3, 300, .inl re)), (a4, .inl (c4, 300, .inl np))] → va_S A s.heap H locs → lv_has ls 4 [(3, .int (nI (hp_pl M o + 1 + i))), (2, .int (nI (hp_pl M o + (1 + hp_z M o)))), (0, .ref h0), (1, .int (nI (hp_pl M o)))] → W p l e (headSpec wsX0_redirectContentsAt ({ frames := 2, cells := 0, slots := 0, locals := 42 })).room s m args below meth c H locs 0 0 Q9 (F0 m 12 ls []) := by
    intro n9
    induction n9 with
    | zero => intro i H locs ls hm; exact absurd hm (Nat.not_lt_zero _)
    | succ n9 ih =>
      intro i H locs ls hm hI hP hD hS hl
      refine lv_iload_n hx hb dX0_redirectContentsAt_12 rfl (lv_at hl 0 rfl) ?_
      refine lv_iload_n hx hb dX0_redirectContentsAt_13 rfl (lv_at hl 1 rfl) ?_
      refine lv_icmp_ge hx hb dX0_redirectContentsAt_14 (tgt := 41) (by decide) (fun hc => ?_) (fun hc => ?_)
      · have hi : i = hp_z M o := by
          have h1 := (nI_leI (by omega) (by omega)).mp hc
          omega
        subst hi
        subst hQ9
        exact W.vret hx hb hr (fun t ht hWm => ⟨⟨hp_rd np ce (hp_pl M o + 1) (hp_pl M o + 1 + hp_z M o), rfl, rfl, by rw [ht]; exact hP, va_K.moved hWm.alike hK, hD⟩, hS.F ht⟩) hS.2.2 dX0_redirectContentsAt_41
      · have hi : i < hp_z M o := Nat.lt_of_not_le (fun h9 => hc ((nI_leI (by omega) (by omega)).mpr (by omega)))
        have hat : hp_rd np ce (hp_pl M o + 1) (hp_pl M o + 1 + i) (hp_pl M o + 1 + i) = ce (hp_pl M o + 1 + i) := by unfold hp_rd; rw [if_neg (by omega)]
        refine lv_aload_n hx hb dX0_redirectContentsAt_17 rfl (lv_at hl 2 rfl) ?_
        refine va_get (D := (dC, dI)) (ci := 0) (v := .ref a1) (C := RX0) (T := TX0) (N := 8) hx hb hts inX0 hown hK hP 0 rfl rfl 0 (by decide) (hts _ bw_fl_X0_9) (fun _ h9 => h9) rfl dX0_redirectContentsAt_18 ?_
        refine lv_iload_n hx hb dX0_redirectContentsAt_21 rfl (lv_at hl 0 rfl) ?_
        refine lv_aload_n hx hb dX0_redirectContentsAt_22 rfl (lv_at hl 2 rfl) ?_
        refine lv_aload_n hx hb dX0_redirectContentsAt_23 rfl (lv_at hl 2 rfl) ?_
        refine va_get (D := (dC, dI)) (ci := 0) (v := .ref a1) (C := RX0) (T := TX0) (N := 8) hx hb hts inX0 hown hK hP 0 rfl rfl 0 (by decide) (hts _ bw_fl_X0_9) (fun _ h9 => h9) rfl dX0_redirectContentsAt_24 ?_
        refine lv_iload_n hx hb dX0_redirectContentsAt_27 rfl (lv_at hl 0 rfl) ?_
        refine hw_lald (j := hp_pl M o + 1 + i) hx hb hK hP 1 0 rfl rfl (rfl) (by omega) (by decide) dX0_redirectContentsAt_28 ?_
        refine lv_l2i hx hb dX0_redirectContentsAt_29 rfl ?_
        refine W.callR (W.runV (As := [.int (((hp_rd np ce (hp_pl M o + 1) (hp_pl M o + 1 + i)) (hp_pl M o + 1 + i)).toInt32)]) (rest := [.int (nI (hp_pl M o + 1 + i)), .ref a1]) ⟨hx, hb, hml, hown, hts⟩ (c_X0_newPlaceOf l dC dI h0 a1 a2 a3 a4 c1 c2 c3 c4 (hp_rd np ce (hp_pl M o + 1) (hp_pl M o + 1 + i)) rg tk ob co re rc np _ (by rw [hat]; exact hr9 i hi)) (cwV 1 hts gw_X0_124 rfl rfl rfl ⟨rfl, by decide, by decide, by decide +kernel⟩ ⟨Nat.le_of_ble_eq_true rfl, Nat.le_of_ble_eq_true rfl⟩) ⟨hw_blind, va_recv (q0 := 0) (ci := 0) (q := (RX0, TX0, 8)) hK hP rfl rfl, hw_pay hP hK hD⟩ rfl rfl hl.1 rfl (lv_room (Nat.le_of_ble_eq_true rfl)) dX0_redirectContentsAt_30 ⟨by decide, by decide⟩) ?_
        refine W.eq (g2 := F0 m 33 ls [.int (hp_nw np (hp_rd np ce (hp_pl M o + 1) (hp_pl M o + 1 + i) (hp_pl M o + 1 + i)).toInt32), .int (nI (hp_pl M o + 1 + i)), .ref a1]) rfl ?_
        refine lv_i2l hx hb dX0_redirectContentsAt_33 rfl ?_
        refine hw_last (j := hp_pl M o + 1 + i) hx hb hK hP hD hS 1 0 rfl rfl (rfl) (by omega) (by decide) dX0_redirectContentsAt_34 (fun H locs hP hD hS => ?_)
        have hP : va_P (dC, dI) vwCl [(h0, .inr (0, [.ref a1, .ref a2, .int tk, .int ob, .int co, .ref a3, .int rc, .ref a4])), (a1, .inl (c1, 300, .inr (.inl (vp_updL (hp_rd np ce (hp_pl M o + 1) (hp_pl M o + 1 + i)) (hp_pl M o + 1 + i) ((hp_nw np (hp_rd np ce (hp_pl M o + 1) (hp_pl M o + 1 + i) (hp_pl M o + 1 + i)).toInt32).toInt64))))), (a2, .inl (c2, 16, .inl rg)), (a3, .inl (c3, 300, .inl re)), (a4, .inl (c4, 300, .inl np))] H := hP
        have hD : va_D A [(h0, .inr (0, [.ref a1, .ref a2, .int tk, .int ob, .int co, .ref a3, .int rc, .ref a4])), (a1, .inl (c1, 300, .inr (.inl (vp_updL (hp_rd np ce (hp_pl M o + 1) (hp_pl M o + 1 + i)) (hp_pl M o + 1 + i) ((hp_nw np (hp_rd np ce (hp_pl M o + 1) (hp_pl M o + 1 + i) (hp_pl M o + 1 + i)).toInt32).toInt64))))), (a2, .inl (c2, 16, .inl rg)), (a3, .inl (c3, 300, .inl re)), (a4, .inl (c4, 300, .inl np))] := hD
        rw [show vp_updL (hp_rd np ce (hp_pl M o + 1) (hp_pl M o + 1 + i)) (hp_pl M o + 1 + i) ((hp_nw np (hp_rd np ce (hp_pl M o + 1) (hp_pl M o + 1 + i) (hp_pl M o + 1 + i)).toInt32).toInt64) = hp_rd np ce (hp_pl M o + 1) (hp_pl M o + 1 + (i + 1)) from hp_rd_s np ce (Nat.le_add_right _ _)] at hP hD
        refine lv_iinc (k := 0) (v := nI (hp_pl M o + 1 + (i + 1))) hx hb dX0_redirectContentsAt_35 hl rfl (nI_1 _) (by decide) rfl (fun ls hl => ?_)
        have hl : lv_has ls 4 [(3, .int (nI (hp_pl M o + 1 + (i + 1)))), (2, .int (nI (hp_pl M o + (1 + hp_z M o)))), (0, .ref h0), (1, .int (nI (hp_pl M o)))] := hl
        refine lv_goto hx hb dX0_redirectContentsAt_38 (tgt := 12) (by decide) ?_
        exact ih (i + 1) H locs ls (by omega) (hi) hP hD hS (lv_sub hl [0, 1, 2, 3] rfl)
  exact loop _ 0 H locs ls (Nat.lt_succ_self _) (Nat.zero_le _) hP hD hS (lv_sub hl [0, 1, 2, 3] rfl)
