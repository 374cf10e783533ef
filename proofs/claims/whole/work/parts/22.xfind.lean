set_option maxHeartbeats 4000000 in
set_option maxRecDepth 100000 in
/-- noteContents(place) -/
theorem c_X0_noteContents (l : Launch) (dC : Nat → ClassId) (dI : Nat → Nat → Nat) (h0 a1 a2 a3 a4 : Nat) (c1 c2 c3 c4 : ClassId) (ce : Nat → Int64) (rg : Nat → Int32) (tk ob co : Int32) (re : Nat → Int32) (rc : Int32) (np : Nat → Int32) (sz : Nat) (M : hp_S) (hW : hp_W M) (co9 : Int32) (hC : hp_C M ce rg tk ob co9) (R : List Nat) (hI : hp_I M R re rc np) (o : Nat) (ho : o ∈ hp_L M) (hk : hp_k M o = 1) : Met l yX0_noteContents wsX0_noteContents ({ frames := 2, cells := 0, slots := 0, locals := 42 }) (va_Pc [.ref h0, .int (nI (hp_pl M o))] (hw_pre (dC, dI) vwCl [(c1, .long), (c2, .int), (c3, .int), (c4, .int)] [(h0, .inr (0, [.ref a1, .ref a2, .int tk, .int ob, .int co, .ref a3, .int rc, .ref a4])), (a1, .inl (c1, 300, .inr (.inl ce))), (a2, .inl (c2, 16, .inl rg)), (a3, .inl (c3, 300, .inl re)), (a4, .inl (c4, 300, .inl np))] sz)) (va_Qv (fun u : (Nat → Int32) × Int32 × (Nat → Int32) => hp_I M (hp_nf (hp_l M o) (hp_z M o) R) u.1 u.2.1 u.2.2) (fun u t => hw_B (dC, dI) vwCl [(c1, .long), (c2, .int), (c3, .int), (c4, .int)] (va_A [(h0, .inr (0, [.ref a1, .ref a2, .int tk, .int ob, .int co, .ref a3, .int rc, .ref a4])), (a1, .inl (c1, 300, .inr (.inl ce))), (a2, .inl (c2, 16, .inl rg)), (a3, .inl (c3, 300, .inl re)), (a4, .inl (c4, 300, .inl np))] sz) ((fun u : (Nat → Int32) × Int32 × (Nat → Int32) => [(h0, .inr (0, [.ref a1, .ref a2, .int tk, .int ob, .int co, .ref a3, .int u.2.1, .ref a4])), (a1, .inl (c1, 300, .inr (.inl ce))), (a2, .inl (c2, 16, .inl rg)), (a3, .inl (c3, 300, .inl u.1)), (a4, .inl (c4, 300, .inl u.2.2))]) u) t) (va_A [(h0, .inr (0, [.ref a1, .ref a2, .int tk, .int ob, .int co, .ref a3, .int rc, .ref a4])), (a1, .inl (c1, 300, .inr (.inl ce))), (a2, .inl (c2, 16, .inl rg)), (a3, .inl (c3, 300, .inl re)), (a4, .inl (c4, 300, .inl np))] sz)) 0 0 (va_A [(h0, .inr (0, [.ref a1, .ref a2, .int tk, .int ob, .int co, .ref a3, .int rc, .ref a4])), (a1, .inl (c1, 300, .inr (.inl ce))), (a2, .inl (c2, 16, .inl rg)), (a3, .inl (c3, 300, .inl re)), (a4, .inl (c4, 300, .inl np))] sz) := by
  refine Met.ofW (cc := cX0_noteContents) (maxL := 4) (ret := none) (by decide) rfl ?_
  intro p e s m args below meth c s₁ B hml hv
  obtain ⟨hargs, hsz, hP, hK, hD0⟩ := hv
  have hx := B.exec
  have hb := B.bytes
  have hr := B.returns
  have hts : ∀ w ∈ wb, w.before _ s = true := fun w h => atoms_spec (ws := wsX0_noteContents) B.pre w (List.mem_cons_of_mem _ h)
  have hown : s.vm.findClass RX0 = some m.cls := findClass_of_methodNamed B.named
  have hlocks := B.notSynchronized
  subst hsz
  have hD := hD0.self (sz := s.heap.size)
  generalize hAe : va_A [(h0, .inr (0, [.ref a1, .ref a2, .int tk, .int ob, .int co, .ref a3, .int rc, .ref a4])), (a1, .inl (c1, 300, .inr (.inl ce))), (a2, .inl (c2, 16, .inl rg)), (a3, .inl (c3, 300, .inl re)), (a4, .inl (c4, 300, .inl np))] s.heap.size = A at hD ⊢
  have hA : ∀ q : Nat, s.heap.size ≤ q → A q := fun q h => by rw [← hAe]; exact Or.inr h
  have hS : va_S A s.heap s.heap [] := va_S.rf
  generalize hQ9 : MQ below (va_Qv (fun u : (Nat → Int32) × Int32 × (Nat → Int32) => hp_I M (hp_nf (hp_l M o) (hp_z M o) R) u.1 u.2.1 u.2.2) (fun u t => hw_B (dC, dI) vwCl [(c1, .long), (c2, .int), (c3, .int), (c4, .int)] A ((fun u : (Nat → Int32) × Int32 × (Nat → Int32) => [(h0, .inr (0, [.ref a1, .ref a2, .int tk, .int ob, .int co, .ref a3, .int u.2.1, .ref a4])), (a1, .inl (c1, 300, .inr (.inl ce))), (a2, .inl (c2, 16, .inl rg)), (a3, .inl (c3, 300, .inl u.1)), (a4, .inl (c4, 300, .inl u.2.2))]) u) t) A) args s 0 0 A = Q9
  have hl := lv_entry ([.ref h0, .int (nI (hp_pl M o))]) (n := 4) (Nat.le_of_ble_eq_true rfl)
  rw [show entryFrame m args 4 = _ from (congrArg (fun z => entryFrame m z 4) hargs).trans (lg_entry_eq m [.ref h0, .int (nI (hp_pl M o))] 4)]
  generalize (lg_sl ([.ref h0, .int (nI (hp_pl M o))]) ++ List.replicate (4 - (lg_sl ([.ref h0, .int (nI (hp_pl M o))])).length) Slot.unset).toArray = ls at hl ⊢
  have hl : lv_has ls 4 [(0, .ref h0), (1, .int (nI (hp_pl M o)))] := hl
  obtain ⟨H, hH⟩ : ∃ H, H = s.heap := ⟨_, rfl⟩
  rw [← hH] at hP
  have hS : va_S A s.heap H [] := by rw [hH]; exact hS
  rw [← hH]
  generalize ([] : List Loc) = locs at hS ⊢
  have hlt := hp_pl_lt hW ho
  have hcell := hC.2.2.2.2 o ho
  have hk2 : hp_k M o ≠ 2 := by omega
  refine lv_iload_n hx hb dX0_noteContents_0 rfl (lv_at hl 1 rfl) ?_
  refine lv_aload_n hx hb dX0_noteContents_1 rfl (lv_at hl 0 rfl) ?_
  refine lv_iload_n hx hb dX0_noteContents_2 rfl (lv_at hl 1 rfl) ?_
  refine W.callR (W.runV (As := [.int (nI (hp_pl M o))]) (rest := [.int (nI (hp_pl M o))]) ⟨hx, hb, hml, hown, hts⟩ (c_X0_sizeAt l dC dI h0 a1 a2 a3 a4 c1 c2 c3 c4 ce rg tk ob co re rc np _ (by omega)) (cwV 1 hts gw_X0_121 rfl rfl rfl ⟨rfl, by decide, by decide, by decide +kernel⟩ ⟨Nat.le_of_ble_eq_true rfl, Nat.le_of_ble_eq_true rfl⟩) ⟨hw_blind, va_recv (q0 := 0) (ci := 0) (q := (RX0, TX0, 8)) hK hP rfl rfl, hw_pay hP hK hD⟩ rfl rfl hl.1 rfl (lv_room (Nat.le_of_ble_eq_true rfl)) dX0_noteContents_3 ⟨by decide, by decide⟩) ?_
  refine W.eq (g2 := F0 m 6 ls [.int (1 + (ce (hp_pl M o)).toInt32 >>> ((2 : Int32) &&& 31)), .int (nI (hp_pl M o))]) rfl ?_
  refine hw_topi (y := nI (1 + hp_z M o)) (hp_rsize hW ho hcell.1) ?_
  refine lv_iadd hx hb dX0_noteContents_6 ?_
  refine hw_topi (y := nI (hp_pl M o + (1 + hp_z M o))) (nI_add _ _) ?_
  refine lv_istore_n hx hb dX0_noteContents_7 rfl hl (by decide) rfl (fun ls hl => ?_)
  have hl : lv_has ls 4 [(2, .int (nI (hp_pl M o + (1 + hp_z M o)))), (0, .ref h0), (1, .int (nI (hp_pl M o)))] := hl
  refine lv_iload_n hx hb dX0_noteContents_8 rfl (lv_at hl 2 rfl) ?_
  refine lv_iconst (v := 1) hx hb dX0_noteContents_9 (by decide) ?_
  refine lv_iadd hx hb dX0_noteContents_10 ?_
  refine hw_topi (y := nI (hp_pl M o + (1 + 0))) (nI_1 _) ?_
  refine lv_istore_n hx hb dX0_noteContents_11 rfl hl (by decide) rfl (fun ls hl => ?_)
  have hl : lv_has ls 4 [(3, .int (nI (hp_pl M o + (1 + 0)))), (2, .int (nI (hp_pl M o + (1 + hp_z M o)))), (0, .ref h0), (1, .int (nI (hp_pl M o)))] := hl
  have loop : ∀ (n9 : Nat) (i : Nat) (re : Nat → Int32) (rc : Int32) (np : Nat → Int32) (H : Heap) (locs : List Loc) (ls : Array Slot), hp_z M o - i < n9 → (i ≤ hp_z M o ∧ hp_I M (hp_nf (hp_l M o) i R) re rc np) → va_P (dC, dI) vwCl [(h0, .inr (0, [.ref a1, .ref a2, .int tk, .int ob, .int co, .ref a3, .int rc, .ref a4])), (a1, .inl (c1, 300, .inr (.inl ce))), (a2, .inl (c2, 16, .inl rg)), (a3, .inl (c3, 300, .inl re)), (a4, .inl (c4, 300, .inl np))] H → va_D A [(h0, .inr (0, [.ref a1, .ref a2, .int tk, .int ob, .int co, .ref a3, .int rc, .ref a4])), (a1, .inl (c1, 300, .inr (.inl ce))), (a2, .inl (c2, 16, .inl rg)), (a3, .inl (c3, 300, .inl re)), (a4, .inl (c4, 300, .inl np))] → va_S A s.heap H locs → lv_has ls 4 [(3, .int (nI (hp_pl M o + (1 + i)))), (2, .int (nI (hp_pl M o + (1 + hp_z M o)))), (0, .ref h0), (1, .int (nI (hp_pl M o)))] → W p l e (headSpec wsX0_noteContents ({ frames := 2, cells := 0, slots := 0, locals := 42 })).room s m args below meth c H locs 0 0 Q9 (F0 m 12 ls []) := by
    intro n9
    induction n9 with
    | zero => intro i re rc np H locs ls hm; exact absurd hm (Nat.not_lt_zero _)
    | succ n9 ih =>
      intro i re rc np H locs ls hm hI hP hD hS hl
      refine lv_iload_n hx hb dX0_noteContents_12 rfl (lv_at hl 0 rfl) ?_
      refine lv_iload_n hx hb dX0_noteContents_13 rfl (lv_at hl 1 rfl) ?_
      refine lv_icmp_ge hx hb dX0_noteContents_14 (tgt := 34) (by decide) (fun hc => ?_) (fun hc => ?_)
      · have hi : i = hp_z M o := by
          have h1 := (nI_leI (by omega) (by omega)).mp hc
          omega
        subst hi
        subst hQ9
        exact W.vret hx hb hr (fun t ht hWm => ⟨⟨(re, rc, np), rfl, hI.2, by rw [ht]; exact hP, va_K.moved hWm.alike hK, hD⟩, hS.F ht⟩) hS.2.2 dX0_noteContents_34
      · have hi : i < hp_z M o := Nat.lt_of_not_le (fun h9 => hc ((nI_leI (by omega) (by omega)).mpr (by omega)))
        refine lv_aload_n hx hb dX0_noteContents_17 rfl (lv_at hl 2 rfl) ?_
        refine lv_aload_n hx hb dX0_noteContents_18 rfl (lv_at hl 2 rfl) ?_
        refine va_get (D := (dC, dI)) (ci := 0) (v := .ref a1) (C := RX0) (T := TX0) (N := 8) hx hb hts inX0 hown hK hP 0 rfl rfl 0 (by decide) (hts _ bw_fl_X0_9) (fun _ h9 => h9) rfl dX0_noteContents_19 ?_
        refine lv_iload_n hx hb dX0_noteContents_22 rfl (lv_at hl 0 rfl) ?_
        refine hw_lald (j := hp_pl M o + (1 + i)) hx hb hK hP 1 0 rfl rfl (rfl) (by omega) (by decide) dX0_noteContents_23 ?_
        refine lv_l2i hx hb dX0_noteContents_24 rfl ?_
        refine hw_topi (y := hp_e M (hp_l M o i)) (hp_rref hk2 (hcell.2 i hi)) ?_
        refine hw_callv (va_runV (As := [.int (hp_e M (hp_l M o i))]) (rest := []) ⟨hx, hb, hml, hown, hts⟩ (c_X0_noteReached l dC dI h0 a1 a2 a3 a4 c1 c2 c3 c4 ce rg tk ob co re rc np _ M hW (hp_nf (hp_l M o) i R) hI.2 (hp_l M o i) (hW.2.2.2.2.1 o ho hk2 i hi)) (cwV 1 hts gw_X0_115 rfl rfl rfl ⟨rfl, by decide, by decide, by decide +kernel⟩ ⟨Nat.le_of_ble_eq_true rfl, Nat.le_of_ble_eq_true rfl⟩) ⟨hw_blind, va_recv (q0 := 0) (ci := 0) (q := (RX0, TX0, 8)) hK hP rfl rfl, hw_pay hP hK hD⟩ rfl rfl hl.1 rfl (lv_room (Nat.le_of_ble_eq_true rfl)) dX0_noteContents_25 ⟨by decide, by decide⟩) hD hS hA (fun u9 H locs hw hP hD hS => ?_)
        obtain ⟨re, rc, np⟩ := u9
        have hP : va_P (dC, dI) vwCl [(h0, .inr (0, [.ref a1, .ref a2, .int tk, .int ob, .int co, .ref a3, .int rc, .ref a4])), (a1, .inl (c1, 300, .inr (.inl ce))), (a2, .inl (c2, 16, .inl rg)), (a3, .inl (c3, 300, .inl re)), (a4, .inl (c4, 300, .inl np))] H := hP
        have hD : va_D A [(h0, .inr (0, [.ref a1, .ref a2, .int tk, .int ob, .int co, .ref a3, .int rc, .ref a4])), (a1, .inl (c1, 300, .inr (.inl ce))), (a2, .inl (c2, 16, .inl rg)), (a3, .inl (c3, 300, .inl re)), (a4, .inl (c4, 300, .inl np))] := hD
        refine lv_iinc (k := 0) (v := nI (hp_pl M o + (1 + (i + 1)))) hx hb dX0_noteContents_28 hl rfl (nI_1 _) (by decide) rfl (fun ls hl => ?_)
        have hl : lv_has ls 4 [(3, .int (nI (hp_pl M o + (1 + (i + 1))))), (2, .int (nI (hp_pl M o + (1 + hp_z M o)))), (0, .ref h0), (1, .int (nI (hp_pl M o)))] := hl
        refine lv_goto hx hb dX0_noteContents_31 (tgt := 12) (by decide) ?_
        exact ih (i + 1) re rc np H locs ls (by omega) (⟨hi, hw⟩) hP hD hS (lv_sub hl [0, 1, 2, 3] rfl)
  exact loop _ 0 re rc np H locs ls (Nat.lt_succ_self _) (⟨Nat.zero_le _, hI⟩) hP hD hS (lv_sub hl [0, 1, 2, 3] rfl)

set_option maxHeartbeats 4000000 in
set_option maxRecDepth 100000 in
/-- findReached() -/
theorem c_X0_findReached (l : Launch) (dC : Nat → ClassId) (dI : Nat → Nat → Nat) (h0 a1 a2 a3 a4 : Nat) (c1 c2 c3 c4 : ClassId) (ce : Nat → Int64) (rg : Nat → Int32) (tk ob co : Int32) (re : Nat → Int32) (rc : Int32) (np : Nat → Int32) (sz : Nat) (M : hp_S) (hW : hp_W M) (co9 : Int32) (hC : hp_C M ce rg tk ob co9) : Met l yX0_findReached wsX0_findReached ({ frames := 3, cells := 0, slots := 0, locals := 65 }) (va_Pc [.ref h0] (hw_pre (dC, dI) vwCl [(c1, .long), (c2, .int), (c3, .int), (c4, .int)] [(h0, .inr (0, [.ref a1, .ref a2, .int tk, .int ob, .int co, .ref a3, .int rc, .ref a4])), (a1, .inl (c1, 300, .inr (.inl ce))), (a2, .inl (c2, 16, .inl rg)), (a3, .inl (c3, 300, .inl re)), (a4, .inl (c4, 300, .inl np))] sz)) (va_Qv (fun u : (Nat → Int32) × Int32 × (Nat → Int32) => ∃ R, hp_I M R u.1 u.2.1 u.2.2 ∧ ∀ o, o ∈ R ↔ hp_b M o = true) (fun u t => hw_B (dC, dI) vwCl [(c1, .long), (c2, .int), (c3, .int), (c4, .int)] (va_A [(h0, .inr (0, [.ref a1, .ref a2, .int tk, .int ob, .int co, .ref a3, .int rc, .ref a4])), (a1, .inl (c1, 300, .inr (.inl ce))), (a2, .inl (c2, 16, .inl rg)), (a3, .inl (c3, 300, .inl re)), (a4, .inl (c4, 300, .inl np))] sz) ((fun u : (Nat → Int32) × Int32 × (Nat → Int32) => [(h0, .inr (0, [.ref a1, .ref a2, .int tk, .int ob, .int co, .ref a3, .int u.2.1, .ref a4])), (a1, .inl (c1, 300, .inr (.inl ce))), (a2, .inl (c2, 16, .inl rg)), (a3, .inl (c3, 300, .inl u.1)), (a4, .inl (c4, 300, .inl u.2.2))]) u) t) (va_A [(h0, .inr (0, [.ref a1, .ref a2, .int tk, .int ob, .int co, .ref a3, .int rc, .ref a4])), (a1, .inl (c1, 300, .inr (.inl ce))), (a2, .inl (c2, 16, .inl rg)), (a3, .inl (c3, 300, .inl re)), (a4, .inl (c4, 300, .inl np))] sz)) 0 0 (va_A [(h0, .inr (0, [.ref a1, .ref a2, .int tk, .int ob, .int co, .ref a3, .int rc, .ref a4])), (a1, .inl (c1, 300, .inr (.inl ce))), (a2, .inl (c2, 16, .inl rg)), (a3, .inl (c3, 300, .inl re)), (a4, .inl (c4, 300, .inl np))] sz) := by
  refine Met.ofW (cc := cX0_findReached) (maxL := 2) (ret := none) (by decide) rfl ?_
  intro p e s m args below meth c s₁ B hml hv
  obtain ⟨hargs, hsz, hP, hK, hD0⟩ := hv
  have hx := B.exec
  have hb := B.bytes
  have hr := B.returns
  have hts : ∀ w ∈ wb, w.before _ s = true := fun w h => atoms_spec (ws := wsX0_findReached) B.pre w (List.mem_cons_of_mem _ h)
  have hown : s.vm.findClass RX0 = some m.cls := findClass_of_methodNamed B.named
  have hlocks := B.notSynchronized
  subst hsz
  have hD := hD0.self (sz := s.heap.size)
  generalize hAe : va_A [(h0, .inr (0, [.ref a1, .ref a2, .int tk, .int ob, .int co, .ref a3, .int rc, .ref a4])), (a1, .inl (c1, 300, .inr (.inl ce))), (a2, .inl (c2, 16, .inl rg)), (a3, .inl (c3, 300, .inl re)), (a4, .inl (c4, 300, .inl np))] s.heap.size = A at hD ⊢
  have hA : ∀ q : Nat, s.heap.size ≤ q → A q := fun q h => by rw [← hAe]; exact Or.inr h
  have hS : va_S A s.heap s.heap [] := va_S.rf
  generalize hQ9 : MQ below (va_Qv (fun u : (Nat → Int32) × Int32 × (Nat → Int32) => ∃ R, hp_I M R u.1 u.2.1 u.2.2 ∧ ∀ o, o ∈ R ↔ hp_b M o = true) (fun u t => hw_B (dC, dI) vwCl [(c1, .long), (c2, .int), (c3, .int), (c4, .int)] A ((fun u : (Nat → Int32) × Int32 × (Nat → Int32) => [(h0, .inr (0, [.ref a1, .ref a2, .int tk, .int ob, .int co, .ref a3, .int u.2.1, .ref a4])), (a1, .inl (c1, 300, .inr (.inl ce))), (a2, .inl (c2, 16, .inl rg)), (a3, .inl (c3, 300, .inl u.1)), (a4, .inl (c4, 300, .inl u.2.2))]) u) t) A) args s 0 0 A = Q9
  have hl := lv_entry ([.ref h0]) (n := 2) (Nat.le_of_ble_eq_true rfl)
  rw [show entryFrame m args 2 = _ from (congrArg (fun z => entryFrame m z 2) hargs).trans (lg_entry_eq m [.ref h0] 2)]
  generalize (lg_sl ([.ref h0]) ++ List.replicate (2 - (lg_sl ([.ref h0])).length) Slot.unset).toArray = ls at hl ⊢
  have hl : lv_has ls 2 [(0, .ref h0)] := hl
  obtain ⟨H, hH⟩ : ∃ H, H = s.heap := ⟨_, rfl⟩
  rw [← hH] at hP
  have hS : va_S A s.heap H [] := by rw [hH]; exact hS
  rw [← hH]
  generalize ([] : List Loc) = locs at hS ⊢
  refine lv_aload_n hx hb dX0_findReached_0 rfl (lv_at hl 0 rfl) ?_
  refine va_get (D := (dC, dI)) (ci := 0) (v := .ref a4) (C := RX0) (T := TX0) (N := 8) hx hb hts inX0 hown hK hP 0 rfl rfl 7 (by decide) (hts _ bw_fl_X0_33) (fun _ h9 => h9) rfl dX0_findReached_1 ?_
  refine lv_iconst (v := (-1)) hx hb dX0_findReached_4 (by decide) ?_
  have hPc := hP.sub (ws' := [(a4, .inl (c4, 300, .inl np))]) [4] rfl
  have hDc := hD.sub (ws' := [(a4, .inl (c4, 300, .inl np))]) [4] (by decide) rfl
  have hKc := hK.sub (tys' := [(c4, .int)]) [3] rfl
  have hFc := va_free (wc := [(a4, .inl (c4, 300, .inl np))]) hD hS hA [4] rfl
  refine va_callv (va_runS (As := [.ref a4, .int (-1)]) (rest := []) ⟨hx, hb, hml, hown, hts⟩ (c_J7_fill l dC dI a4 c4 300 (by decide) np _ (-1)) (va_cwS 2 hts gw_X0_36 rfl rfl rfl ⟨by decide, by decide, by decide +kernel⟩ ⟨Nat.le_of_ble_eq_true rfl, Nat.le_of_ble_eq_true rfl⟩) ⟨hw_blind, hw_pay hPc hKc hDc⟩ rfl rfl hl.1 rfl (lv_room (Nat.le_of_ble_eq_true rfl)) dX0_findReached_5 ⟨by decide, by decide⟩) hS (fun q _ h => hFc q h) hFc (fun u t H1 locs ht hvm hw hB hz1 hk1 hS => ?_)
  obtain ⟨hP1, hK1, hD1⟩ := hB
  rw [ht] at hP1
  obtain ⟨hP, hD⟩ := va_join (wr := [(h0, .inr (0, [.ref a1, .ref a2, .int tk, .int ob, .int co, .ref a3, .int rc, .ref a4])), (a1, .inl (c1, 300, .inr (.inl ce))), (a2, .inl (c2, 16, .inl rg)), (a3, .inl (c3, 300, .inl re))]) (w1 := [(a4, .inl (c4, 300, .inl u))]) hP hD [4] [0, 1, 2, 3] rfl rfl (by decide) (by decide) hk1 hFc hP1 hD1
  clear hk1 hFc hP1 hD1 hPc hDc hz1
  generalize H1 = H at hP hS ⊢
  have hP : va_P (dC, dI) vwCl [(h0, .inr (0, [.ref a1, .ref a2, .int tk, .int ob, .int co, .ref a3, .int rc, .ref a4])), (a1, .inl (c1, 300, .inr (.inl ce))), (a2, .inl (c2, 16, .inl rg)), (a3, .inl (c3, 300, .inl re)), (a4, .inl (c4, 300, .inl u))] H := hP
  have hD : va_D A [(h0, .inr (0, [.ref a1, .ref a2, .int tk, .int ob, .int co, .ref a3, .int rc, .ref a4])), (a1, .inl (c1, 300, .inr (.inl ce))), (a2, .inl (c2, 16, .inl rg)), (a3, .inl (c3, 300, .inl re)), (a4, .inl (c4, 300, .inl u))] := hD
  refine lv_aload_n hx hb dX0_findReached_8 rfl (lv_at hl 0 rfl) ?_
  refine lv_iconst (v := 0) hx hb dX0_findReached_9 (by decide) ?_
  refine hw_topi (y := nI 0) (nI_0.symm) ?_
  refine va_put (D := (dC, dI)) (ci := 0) (v := .int (nI 0)) (ty := .int) (C := RX0) (T := TX0) (N := 8) hx hb hts inX0 tyX0 tyX0_ok nmX0 hown hK hP hD hS 0 rfl rfl 6 (by decide) (hts _ bw_fl_X0_30) (fun _ h9 => h9) rfl (by decide +kernel) rfl rfl (Nat.le_of_ble_eq_true rfl) dX0_findReached_10 (fun H locs hP hD hS => ?_)
  have hP : va_P (dC, dI) vwCl [(h0, .inr (0, [.ref a1, .ref a2, .int tk, .int ob, .int co, .ref a3, .int (nI 0), .ref a4])), (a1, .inl (c1, 300, .inr (.inl ce))), (a2, .inl (c2, 16, .inl rg)), (a3, .inl (c3, 300, .inl re)), (a4, .inl (c4, 300, .inl u))] H := hP
  have hD : va_D A [(h0, .inr (0, [.ref a1, .ref a2, .int tk, .int ob, .int co, .ref a3, .int (nI 0), .ref a4])), (a1, .inl (c1, 300, .inr (.inl ce))), (a2, .inl (c2, 16, .inl rg)), (a3, .inl (c3, 300, .inl re)), (a4, .inl (c4, 300, .inl u))] := hD
  refine lv_iconst (v := 0) hx hb dX0_findReached_13 (by decide) ?_
  refine hw_topi (y := nI 0) (nI_0.symm) ?_
  refine lv_istore_n hx hb dX0_findReached_14 rfl hl (by decide) rfl (fun ls hl => ?_)
  have hl : lv_has ls 2 [(1, .int (nI 0)), (0, .ref h0)] := hl
  have loop : ∀ (n9 : Nat) (k : Nat) (re : Nat → Int32) (rc : Int32) (np : Nat → Int32) (H : Heap) (locs : List Loc) (ls : Array Slot), 16 - k < n9 → (k ≤ 16 ∧ hp_I M (hp_nf (hp_r M) k []) re rc np) → va_P (dC, dI) vwCl [(h0, .inr (0, [.ref a1, .ref a2, .int tk, .int ob, .int co, .ref a3, .int rc, .ref a4])), (a1, .inl (c1, 300, .inr (.inl ce))), (a2, .inl (c2, 16, .inl rg)), (a3, .inl (c3, 300, .inl re)), (a4, .inl (c4, 300, .inl np))] H → va_D A [(h0, .inr (0, [.ref a1, .ref a2, .int tk, .int ob, .int co, .ref a3, .int rc, .ref a4])), (a1, .inl (c1, 300, .inr (.inl ce))), (a2, .inl (c2, 16, .inl rg)), (a3, .inl (c3, 300, .inl re)), (a4, .inl (c4, 300, .inl np))] → va_S A s.heap H locs → lv_has ls 2 [(1, .int (nI k)), (0, .ref h0)] → W p l e (headSpec wsX0_findReached ({ frames := 3, cells := 0, slots := 0, locals := 65 })).room s m args below meth c H locs 0 0 Q9 (F0 m 15 ls []) := by
    intro n9
    induction n9 with
    | zero => intro k re rc np H locs ls hm; exact absurd hm (Nat.not_lt_zero _)
    | succ n9 ih =>
      intro k re rc np H locs ls hm hI hP hD hS hl
      refine lv_iload_n hx hb dX0_findReached_15 rfl (lv_at hl 0 rfl) ?_
      refine lv_bipush (v := 16) hx hb dX0_findReached_16 (by decide) ?_
      refine lv_icmp_ge hx hb dX0_findReached_18 (tgt := 37) (by decide) (fun hc => ?_) (fun hc => ?_)
      · have hk : k = 16 := by
          have h1 := (nI_leI (a := 16) (by decide) (by omega)).mp hc
          omega
        subst hk
        refine lv_iconst (v := 0) hx hb dX0_findReached_37 (by decide) ?_
        refine hw_topi (y := nI 0) (nI_0.symm) ?_
        refine lv_istore_n hx hb dX0_findReached_38 rfl hl (by decide) rfl (fun ls hl => ?_)
        have hl : lv_has ls 2 [(1, .int (nI 0)), (0, .ref h0)] := hl
        have loop2 : ∀ (n9 : Nat) (k : Nat) (R : List Nat) (re : Nat → Int32) (rc : Int32) (np : Nat → Int32) (H : Heap) (locs : List Loc) (ls : Array Slot), 300 - k < n9 → (k ≤ 300 ∧ hp_I M R re rc np ∧ hp_J M R k) → va_P (dC, dI) vwCl [(h0, .inr (0, [.ref a1, .ref a2, .int tk, .int ob, .int co, .ref a3, .int rc, .ref a4])), (a1, .inl (c1, 300, .inr (.inl ce))), (a2, .inl (c2, 16, .inl rg)), (a3, .inl (c3, 300, .inl re)), (a4, .inl (c4, 300, .inl np))] H → va_D A [(h0, .inr (0, [.ref a1, .ref a2, .int tk, .int ob, .int co, .ref a3, .int rc, .ref a4])), (a1, .inl (c1, 300, .inr (.inl ce))), (a2, .inl (c2, 16, .inl rg)), (a3, .inl (c3, 300, .inl re)), (a4, .inl (c4, 300, .inl np))] → va_S A s.heap H locs → lv_has ls 2 [(1, .int (nI k)), (0, .ref h0)] → W p l e (headSpec wsX0_findReached ({ frames := 3, cells := 0, slots := 0, locals := 65 })).room s m args below meth c H locs 0 0 Q9 (F0 m 39 ls []) := by
          intro n9
          induction n9 with
          | zero => intro k R re rc np H locs ls hm; exact absurd hm (Nat.not_lt_zero _)
          | succ n9 ih2 =>
            intro k R re rc np H locs ls hm hI hP hD hS hl
            refine lv_iload_n hx hb dX0_findReached_39 rfl (lv_at hl 0 rfl) ?_
            refine lv_sipush (v := 300) hx hb dX0_findReached_40 (by decide) ?_
            refine lv_icmp_ge hx hb dX0_findReached_43 (tgt := 84) (by decide) (fun hc => ?_) (fun hc => ?_)
            · have hk : 300 ≤ k := (nI_leI (a := 300) (by decide) (by omega)).mp hc
              have hend := hp_J_end hI.2.2 (Nat.le_trans (hp_I_len hW hI.2.1) hk)
              subst hQ9
              exact W.vret hx hb hr (fun t ht hWm => ⟨⟨(re, rc, np), rfl, ⟨R, hI.2.1, hend⟩, by rw [ht]; exact hP, va_K.moved hWm.alike hK, hD⟩, hS.F ht⟩) hS.2.2 dX0_findReached_84
            · have hk : k < 300 := Nat.lt_of_not_le (fun h9 => hc ((nI_leI (a := 300) (by decide) (by omega)).mpr h9))
              refine lv_iload_n hx hb dX0_findReached_46 rfl (lv_at hl 0 rfl) ?_
              refine lv_aload_n hx hb dX0_findReached_47 rfl (lv_at hl 1 rfl) ?_
              refine va_get (D := (dC, dI)) (ci := 0) (v := .int rc) (C := RX0) (T := TX0) (N := 8) hx hb hts inX0 hown hK hP 0 rfl rfl 6 (by decide) (hts _ bw_fl_X0_30) (fun _ h9 => h9) rfl dX0_findReached_48 ?_
              refine lv_icmp_ge hx hb dX0_findReached_51 (tgt := 84) (by decide) (fun hc => ?_) (fun hc => ?_)
              · have hlen := hp_I_len hW hI.2.1
                rw [hI.2.1.1] at hc
                have hend := hp_J_end hI.2.2 ((nI_leI (by omega) (by omega)).mp hc)
                subst hQ9
                exact W.vret hx hb hr (fun t ht hWm => ⟨⟨(re, rc, np), rfl, ⟨R, hI.2.1, hend⟩, by rw [ht]; exact hP, va_K.moved hWm.alike hK, hD⟩, hS.F ht⟩) hS.2.2 dX0_findReached_84
              · have hlen := hp_I_len hW hI.2.1
                have hk2 : k < R.length := Nat.lt_of_not_le (fun h9 => hc (by rw [hI.2.1.1]; exact (nI_leI (by omega) (by omega)).mpr h9))
                obtain ⟨o, ho⟩ : ∃ o, R[k]? = some o := ⟨_, List.getElem?_eq_getElem hk2⟩
                have hoL := hI.2.1.2.2.1 o (List.mem_of_getElem? ho)
                have hre := hI.2.1.2.2.2.1 k o ho
                have hcell := hC.2.2.2.2 o hoL
                have hlt := hp_pl_lt hW hoL
                refine lv_aload_n hx hb dX0_findReached_54 rfl (lv_at hl 1 rfl) ?_
                refine lv_aload_n hx hb dX0_findReached_55 rfl (lv_at hl 1 rfl) ?_
                refine va_get (D := (dC, dI)) (ci := 0) (v := .ref a3) (C := RX0) (T := TX0) (N := 8) hx hb hts inX0 hown hK hP 0 rfl rfl 5 (by decide) (hts _ bw_fl_X0_27) (fun _ h9 => h9) rfl dX0_findReached_56 ?_
                refine lv_iload_n hx hb dX0_findReached_59 rfl (lv_at hl 0 rfl) ?_
                refine hw_iald (j := k) hx hb hK hP 3 2 rfl rfl (rfl) (hk) (by decide) dX0_findReached_60 ?_
                refine hw_topi (y := nI (hp_pl M o)) (hre) ?_
                refine W.callR (W.runV (As := [.int (nI (hp_pl M o))]) (rest := []) ⟨hx, hb, hml, hown, hts⟩ (c_X0_kindAt l dC dI h0 a1 a2 a3 a4 c1 c2 c3 c4 ce rg tk ob co re rc np _ (by omega)) (cwV 1 hts gw_X0_59 rfl rfl rfl ⟨rfl, by decide, by decide, by decide +kernel⟩ ⟨Nat.le_of_ble_eq_true rfl, Nat.le_of_ble_eq_true rfl⟩) ⟨hw_blind, va_recv (q0 := 0) (ci := 0) (q := (RX0, TX0, 8)) hK hP rfl rfl, hw_pay hP hK hD⟩ rfl rfl hl.1 rfl (lv_room (Nat.le_of_ble_eq_true rfl)) dX0_findReached_61 ⟨by decide, by decide⟩) ?_
                refine W.eq (g2 := F0 m 64 ls [.int ((ce (hp_pl M o)).toInt32 &&& 3)]) rfl ?_
                refine hw_topi (y := nI (hp_k M o)) (hp_rkind hW hoL hcell.1) ?_
                refine lv_iconst (v := 1) hx hb dX0_findReached_64 (by decide) ?_
                refine lv_icmp_ne hx hb dX0_findReached_65 (tgt := 78) (by decide) (fun hc => ?_) (fun hc => ?_)
                · have hk1 : hp_k M o ≠ 1 := fun h9 => hc (by rw [h9]; decide)
                  refine lv_iinc (k := 0) (v := nI (k + 1)) hx hb dX0_findReached_78 hl rfl (nI_1 k) (by decide) rfl (fun ls hl => ?_)
                  have hl : lv_has ls 2 [(1, .int (nI (k + 1))), (0, .ref h0)] := hl
                  refine lv_goto hx hb dX0_findReached_81 (tgt := 39) (by decide) ?_
                  exact ih2 (k + 1) R re rc np H locs ls (by omega) (⟨hk, hI.2.1, hp_J_other hI.2.2 ho hk1⟩) hP hD hS (lv_sub hl [0, 1] rfl)
                · have hk1 : hp_k M o = 1 := (hp_k1 hW hoL (n := 1) (by decide)).mp hc
                  refine lv_aload_n hx hb dX0_findReached_68 rfl (lv_at hl 1 rfl) ?_
                  refine lv_aload_n hx hb dX0_findReached_69 rfl (lv_at hl 1 rfl) ?_
                  refine va_get (D := (dC, dI)) (ci := 0) (v := .ref a3) (C := RX0) (T := TX0) (N := 8) hx hb hts inX0 hown hK hP 0 rfl rfl 5 (by decide) (hts _ bw_fl_X0_27) (fun _ h9 => h9) rfl dX0_findReached_70 ?_
                  refine lv_iload_n hx hb dX0_findReached_73 rfl (lv_at hl 0 rfl) ?_
                  refine hw_iald (j := k) hx hb hK hP 3 2 rfl rfl (rfl) (hk) (by decide) dX0_findReached_74 ?_
                  refine hw_topi (y := nI (hp_pl M o)) (hre) ?_
                  refine hw_callv (va_runV (As := [.int (nI (hp_pl M o))]) (rest := []) ⟨hx, hb, hml, hown, hts⟩ (c_X0_noteContents l dC dI h0 a1 a2 a3 a4 c1 c2 c3 c4 ce rg tk ob co re rc np _ M hW co9 hC R hI.2.1 o hoL hk1) (cwV 1 hts gw_X0_118 rfl rfl rfl ⟨rfl, by decide, by decide, by decide +kernel⟩ ⟨Nat.le_of_ble_eq_true rfl, Nat.le_of_ble_eq_true rfl⟩) ⟨hw_blind, va_recv (q0 := 0) (ci := 0) (q := (RX0, TX0, 8)) hK hP rfl rfl, hw_pay hP hK hD⟩ rfl rfl hl.1 rfl (lv_room (Nat.le_of_ble_eq_true rfl)) dX0_findReached_75 ⟨by decide, by decide⟩) hD hS hA (fun u9 H locs hw hP hD hS => ?_)
                  obtain ⟨re, rc, np⟩ := u9
                  have hP : va_P (dC, dI) vwCl [(h0, .inr (0, [.ref a1, .ref a2, .int tk, .int ob, .int co, .ref a3, .int rc, .ref a4])), (a1, .inl (c1, 300, .inr (.inl ce))), (a2, .inl (c2, 16, .inl rg)), (a3, .inl (c3, 300, .inl re)), (a4, .inl (c4, 300, .inl np))] H := hP
                  have hD : va_D A [(h0, .inr (0, [.ref a1, .ref a2, .int tk, .int ob, .int co, .ref a3, .int rc, .ref a4])), (a1, .inl (c1, 300, .inr (.inl ce))), (a2, .inl (c2, 16, .inl rg)), (a3, .inl (c3, 300, .inl re)), (a4, .inl (c4, 300, .inl np))] := hD
                  refine lv_iinc (k := 0) (v := nI (k + 1)) hx hb dX0_findReached_78 hl rfl (nI_1 k) (by decide) rfl (fun ls hl => ?_)
                  have hl : lv_has ls 2 [(1, .int (nI (k + 1))), (0, .ref h0)] := hl
                  refine lv_goto hx hb dX0_findReached_81 (tgt := 39) (by decide) ?_
                  exact ih2 (k + 1) (hp_nf (hp_l M o) (hp_z M o) R) re rc np H locs ls (by omega) (⟨hk, hw, hp_J_links hI.2.2 ho hk1⟩) hP hD hS (lv_sub hl [0, 1] rfl)
        exact loop2 _ 0 (hp_nf (hp_r M) 16 []) re rc np H locs ls (Nat.lt_succ_self _) (⟨Nat.zero_le _, hI.2, hp_J_0 M⟩) hP hD hS (lv_sub hl [0, 1] rfl)
      · have hk : k < 16 := Nat.lt_of_not_le (fun h9 => hc ((nI_leI (a := 16) (by decide) (by omega)).mpr h9))
        refine lv_aload_n hx hb dX0_findReached_21 rfl (lv_at hl 1 rfl) ?_
        refine lv_aload_n hx hb dX0_findReached_22 rfl (lv_at hl 1 rfl) ?_
        refine va_get (D := (dC, dI)) (ci := 0) (v := .ref a2) (C := RX0) (T := TX0) (N := 8) hx hb hts inX0 hown hK hP 0 rfl rfl 1 (by decide) (hts _ bw_fl_X0_13) (fun _ h9 => h9) rfl dX0_findReached_23 ?_
        refine lv_iload_n hx hb dX0_findReached_26 rfl (lv_at hl 0 rfl) ?_
        refine hw_iald (j := k) hx hb hK hP 2 1 rfl rfl (rfl) (hk) (by decide) dX0_findReached_27 ?_
        refine hw_topi (y := hp_e M (hp_r M k)) (hC.2.2.2.1 k hk) ?_
        refine hw_callv (va_runV (As := [.int (hp_e M (hp_r M k))]) (rest := []) ⟨hx, hb, hml, hown, hts⟩ (c_X0_noteReached l dC dI h0 a1 a2 a3 a4 c1 c2 c3 c4 ce rg tk ob co re rc np _ M hW (hp_nf (hp_r M) k []) hI.2 (hp_r M k) (hW.2.2.2.1 k hk)) (cwV 1 hts gw_X0_115 rfl rfl rfl ⟨rfl, by decide, by decide, by decide +kernel⟩ ⟨Nat.le_of_ble_eq_true rfl, Nat.le_of_ble_eq_true rfl⟩) ⟨hw_blind, va_recv (q0 := 0) (ci := 0) (q := (RX0, TX0, 8)) hK hP rfl rfl, hw_pay hP hK hD⟩ rfl rfl hl.1 rfl (lv_room (Nat.le_of_ble_eq_true rfl)) dX0_findReached_28 ⟨by decide, by decide⟩) hD hS hA (fun u9 H locs hw hP hD hS => ?_)
        obtain ⟨re, rc, np⟩ := u9
        have hP : va_P (dC, dI) vwCl [(h0, .inr (0, [.ref a1, .ref a2, .int tk, .int ob, .int co, .ref a3, .int rc, .ref a4])), (a1, .inl (c1, 300, .inr (.inl ce))), (a2, .inl (c2, 16, .inl rg)), (a3, .inl (c3, 300, .inl re)), (a4, .inl (c4, 300, .inl np))] H := hP
        have hD : va_D A [(h0, .inr (0, [.ref a1, .ref a2, .int tk, .int ob, .int co, .ref a3, .int rc, .ref a4])), (a1, .inl (c1, 300, .inr (.inl ce))), (a2, .inl (c2, 16, .inl rg)), (a3, .inl (c3, 300, .inl re)), (a4, .inl (c4, 300, .inl np))] := hD
        refine lv_iinc (k := 0) (v := nI (k + 1)) hx hb dX0_findReached_31 hl rfl (nI_1 k) (by decide) rfl (fun ls hl => ?_)
        have hl : lv_has ls 2 [(1, .int (nI (k + 1))), (0, .ref h0)] := hl
        refine lv_goto hx hb dX0_findReached_34 (tgt := 15) (by decide) ?_
        exact ih (k + 1) re rc np H locs ls (by omega) (⟨hk, hw⟩) hP hD hS (lv_sub hl [0, 1] rfl)
  exact loop _ 0 re (nI 0) u H locs ls (Nat.lt_succ_self _) (⟨Nat.zero_le _, hp_I_0 hw hW⟩) hP hD hS (lv_sub hl [0, 1] rfl)
