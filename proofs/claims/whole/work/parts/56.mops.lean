set_option maxHeartbeats 4000000 in
set_option maxRecDepth 100000 in
theorem c_X1_drop (l : Launch) (dC : Nat → ClassId) (dI : Nat → Nat → Nat) (g0 b1 b2 b3 b4 b5 b6 b7 b8 : Nat) (e1 e2 e3 e4 e5 e6 e7 e8 : ClassId) (th : Int32) (kd zs od lk : Nat → Int32) (nu : Nat → Int64) (rb rg td : Nat → Int32) (ob co tp : Int32) (sz : Nat) (M : hp_S) (hW : hp_W M) (hQ : hp_Q M kd zs od lk nu rg ob co) (r : Int32) (k : Nat) (hk : hp_ck (hp_bad r 16) k) : Met l yX1_drop wsX1_drop ({ frames := 1, cells := 0, slots := 0, locals := 21 }) (va_Pc [.ref g0, .int r] (hw_pre (dC, dI) vwCl [(e1, .int), (e2, .int), (e3, .int), (e4, .int), (e5, .long), (e6, .boolean), (e7, .int), (e8, .int)] [(g0, .inr (1, [.int th, .ref b1, .ref b2, .ref b3, .ref b4, .ref b5, .ref b6, .ref b7, .ref b8, .int ob, .int co, .int tp])), (b1, .inl (e1, 301, .inl kd)), (b2, .inl (e2, 301, .inl zs)), (b3, .inl (e3, 301, .inl od)), (b4, .inl (e4, 12040, .inl lk)), (b5, .inl (e5, 12040, .inr (.inl nu))), (b6, .inl (e6, 301, .inl rb)), (b7, .inl (e7, 16, .inl rg)), (b8, .inl (e8, 301, .inl td))] sz)) (va_Qv (fun u : Int32 × (Nat → Int32) => u.1 = nI k ∧ hp_Q (hp_dd M r k) kd zs od lk nu u.2 ob co) (fun u t => hw_B (dC, dI) vwCl [(e1, .int), (e2, .int), (e3, .int), (e4, .int), (e5, .long), (e6, .boolean), (e7, .int), (e8, .int)] (va_A [(g0, .inr (1, [.int th, .ref b1, .ref b2, .ref b3, .ref b4, .ref b5, .ref b6, .ref b7, .ref b8, .int ob, .int co, .int tp])), (b1, .inl (e1, 301, .inl kd)), (b2, .inl (e2, 301, .inl zs)), (b3, .inl (e3, 301, .inl od)), (b4, .inl (e4, 12040, .inl lk)), (b5, .inl (e5, 12040, .inr (.inl nu))), (b6, .inl (e6, 301, .inl rb)), (b7, .inl (e7, 16, .inl rg)), (b8, .inl (e8, 301, .inl td))] sz) ((fun u : Int32 × (Nat → Int32) => [(g0, .inr (1, [.int u.1, .ref b1, .ref b2, .ref b3, .ref b4, .ref b5, .ref b6, .ref b7, .ref b8, .int ob, .int co, .int tp])), (b1, .inl (e1, 301, .inl kd)), (b2, .inl (e2, 301, .inl zs)), (b3, .inl (e3, 301, .inl od)), (b4, .inl (e4, 12040, .inl lk)), (b5, .inl (e5, 12040, .inr (.inl nu))), (b6, .inl (e6, 301, .inl rb)), (b7, .inl (e7, 16, .inl u.2)), (b8, .inl (e8, 301, .inl td))]) u) t) (va_A [(g0, .inr (1, [.int th, .ref b1, .ref b2, .ref b3, .ref b4, .ref b5, .ref b6, .ref b7, .ref b8, .int ob, .int co, .int tp])), (b1, .inl (e1, 301, .inl kd)), (b2, .inl (e2, 301, .inl zs)), (b3, .inl (e3, 301, .inl od)), (b4, .inl (e4, 12040, .inl lk)), (b5, .inl (e5, 12040, .inr (.inl nu))), (b6, .inl (e6, 301, .inl rb)), (b7, .inl (e7, 16, .inl rg)), (b8, .inl (e8, 301, .inl td))] sz)) 0 0 (va_A [(g0, .inr (1, [.int th, .ref b1, .ref b2, .ref b3, .ref b4, .ref b5, .ref b6, .ref b7, .ref b8, .int ob, .int co, .int tp])), (b1, .inl (e1, 301, .inl kd)), (b2, .inl (e2, 301, .inl zs)), (b3, .inl (e3, 301, .inl od)), (b4, .inl (e4, 12040, .inl lk)), (b5, .inl (e5, 12040, .inr (.inl nu))), (b6, .inl (e6, 301, .inl rb)), (b7, .inl (e7, 16, .inl rg)), (b8, .inl (e8, 301, .inl td))] sz) := by
  refine Met.ofW (cc := cX1_drop) (maxL := 2) (ret := none) (by decide) rfl ?_
  intro p e s m args below meth c s₁ B hml hv
  obtain ⟨hargs, hsz, hP, hK, hD0⟩ := hv
  have hx := B.exec
  have hb := B.bytes
  have hr := B.returns
  have hts : ∀ w ∈ wb, w.before _ s = true := fun w h => atoms_spec (ws := wsX1_drop) B.pre w (List.mem_cons_of_mem _ h)
  have hown : s.vm.findClass RX1 = some m.cls := findClass_of_methodNamed B.named
  have hlocks := B.notSynchronized
  subst hsz
  have hD := hD0.self (sz := s.heap.size)
  generalize hAe : va_A [(g0, .inr (1, [.int th, .ref b1, .ref b2, .ref b3, .ref b4, .ref b5, .ref b6, .ref b7, .ref b8, .int ob, .int co, .int tp])), (b1, .inl (e1, 301, .inl kd)), (b2, .inl (e2, 301, .inl zs)), (b3, .inl (e3, 301, .inl od)), (b4, .inl (e4, 12040, .inl lk)), (b5, .inl (e5, 12040, .inr (.inl nu))), (b6, .inl (e6, 301, .inl rb)), (b7, .inl (e7, 16, .inl rg)), (b8, .inl (e8, 301, .inl td))] s.heap.size = A at hD ⊢
  have hA : ∀ q : Nat, s.heap.size ≤ q → A q := fun q h => by rw [← hAe]; exact Or.inr h
  have hS : va_S A s.heap s.heap [] := va_S.rf
  generalize hQ9 : MQ below (va_Qv (fun u : Int32 × (Nat → Int32) => u.1 = nI k ∧ hp_Q (hp_dd M r k) kd zs od lk nu u.2 ob co) (fun u t => hw_B (dC, dI) vwCl [(e1, .int), (e2, .int), (e3, .int), (e4, .int), (e5, .long), (e6, .boolean), (e7, .int), (e8, .int)] A ((fun u : Int32 × (Nat → Int32) => [(g0, .inr (1, [.int u.1, .ref b1, .ref b2, .ref b3, .ref b4, .ref b5, .ref b6, .ref b7, .ref b8, .int ob, .int co, .int tp])), (b1, .inl (e1, 301, .inl kd)), (b2, .inl (e2, 301, .inl zs)), (b3, .inl (e3, 301, .inl od)), (b4, .inl (e4, 12040, .inl lk)), (b5, .inl (e5, 12040, .inr (.inl nu))), (b6, .inl (e6, 301, .inl rb)), (b7, .inl (e7, 16, .inl u.2)), (b8, .inl (e8, 301, .inl td))]) u) t) A) args s 0 0 A = Q9
  have hl := lv_entry ([.ref g0, .int r]) (n := 2) (Nat.le_of_ble_eq_true rfl)
  rw [show entryFrame m args 2 = _ from (congrArg (fun z => entryFrame m z 2) hargs).trans (lg_entry_eq m [.ref g0, .int r] 2)]
  generalize (lg_sl ([.ref g0, .int r]) ++ List.replicate (2 - (lg_sl ([.ref g0, .int r])).length) Slot.unset).toArray = ls at hl ⊢
  have hl : lv_has ls 2 [(0, .ref g0), (1, .int r)] := hl
  obtain ⟨H, hH⟩ : ∃ H, H = s.heap := ⟨_, rfl⟩
  rw [← hH] at hP
  have hS : va_S A s.heap H [] := by rw [hH]; exact hS
  rw [← hH]
  generalize ([] : List Loc) = locs at hS ⊢
  have hk4 := hp_ck_lt hk
  have tail : ∀ (z9 : Unit) (H : Heap) (locs : List Loc) (ls : Array Slot), (True) → va_P (dC, dI) vwCl [(g0, .inr (1, [.int th, .ref b1, .ref b2, .ref b3, .ref b4, .ref b5, .ref b6, .ref b7, .ref b8, .int ob, .int co, .int tp])), (b1, .inl (e1, 301, .inl kd)), (b2, .inl (e2, 301, .inl zs)), (b3, .inl (e3, 301, .inl od)), (b4, .inl (e4, 12040, .inl lk)), (b5, .inl (e5, 12040, .inr (.inl nu))), (b6, .inl (e6, 301, .inl rb)), (b7, .inl (e7, 16, .inl rg)), (b8, .inl (e8, 301, .inl td))] H → va_D A [(g0, .inr (1, [.int th, .ref b1, .ref b2, .ref b3, .ref b4, .ref b5, .ref b6, .ref b7, .ref b8, .int ob, .int co, .int tp])), (b1, .inl (e1, 301, .inl kd)), (b2, .inl (e2, 301, .inl zs)), (b3, .inl (e3, 301, .inl od)), (b4, .inl (e4, 12040, .inl lk)), (b5, .inl (e5, 12040, .inr (.inl nu))), (b6, .inl (e6, 301, .inl rb)), (b7, .inl (e7, 16, .inl rg)), (b8, .inl (e8, 301, .inl td))] → va_S A s.heap H locs → lv_has ls 2 [(0, .ref g0), (1, .int r)] → W p l e (headSpec wsX1_drop ({ frames := 1, cells := 0, slots := 0, locals := 21 })).room s m args below meth c H locs 0 0 Q9 (F0 m 14 ls [.int (nI k), .ref g0]) := by
    intro z9 H locs ls hI hP hD hS hl
    refine va_put (D := (dC, dI)) (ci := 1) (v := .int (nI k)) (ty := .int) (C := RX1) (T := TX1) (N := 12) hx hb hts inX1 tyX1 tyX1_ok nmX1 hown hK hP hD hS 0 rfl rfl 0 (by decide) (hts _ bw_fl_X1_36) (fun _ h9 => h9) rfl (by decide +kernel) rfl rfl (Nat.le_of_ble_eq_true rfl) dX1_drop_14 (fun H locs hP hD hS => ?_)
    have hP : va_P (dC, dI) vwCl [(g0, .inr (1, [.int (nI k), .ref b1, .ref b2, .ref b3, .ref b4, .ref b5, .ref b6, .ref b7, .ref b8, .int ob, .int co, .int tp])), (b1, .inl (e1, 301, .inl kd)), (b2, .inl (e2, 301, .inl zs)), (b3, .inl (e3, 301, .inl od)), (b4, .inl (e4, 12040, .inl lk)), (b5, .inl (e5, 12040, .inr (.inl nu))), (b6, .inl (e6, 301, .inl rb)), (b7, .inl (e7, 16, .inl rg)), (b8, .inl (e8, 301, .inl td))] H := hP
    have hD : va_D A [(g0, .inr (1, [.int (nI k), .ref b1, .ref b2, .ref b3, .ref b4, .ref b5, .ref b6, .ref b7, .ref b8, .int ob, .int co, .int tp])), (b1, .inl (e1, 301, .inl kd)), (b2, .inl (e2, 301, .inl zs)), (b3, .inl (e3, 301, .inl od)), (b4, .inl (e4, 12040, .inl lk)), (b5, .inl (e5, 12040, .inr (.inl nu))), (b6, .inl (e6, 301, .inl rb)), (b7, .inl (e7, 16, .inl rg)), (b8, .inl (e8, 301, .inl td))] := hD
    refine lv_aload_n hx hb dX1_drop_17 rfl (lv_at hl 0 rfl) ?_
    refine va_get (D := (dC, dI)) (ci := 1) (v := .int (nI k)) (C := RX1) (T := TX1) (N := 12) hx hb hts inX1 hown hK hP 0 rfl rfl 0 (by decide) (hts _ bw_fl_X1_36) (fun _ h9 => h9) rfl dX1_drop_18 ?_
    refine lv_if_ne hx hb dX1_drop_21 (tgt := 31) (by decide) (fun hc => ?_) (fun hc => ?_)
    · have hk0 : k ≠ 0 := fun h9 => hc ((hp_k0 hk4).mpr h9)
      subst hQ9
      exact W.vret hx hb hr (fun t ht hWm => ⟨⟨((nI k), rg), rfl, ⟨rfl, by unfold hp_dd; rw [if_neg hk0]; exact hQ⟩, by rw [ht]; exact hP, va_K.moved hWm.alike hK, hD⟩, hS.F ht⟩) hS.2.2 dX1_drop_31
    · have hk0 : k = 0 := (hp_k0 hk4).mp hc
      obtain ⟨j, hj, hrj⟩ := hp_ok' (hp_ck_0 hk hk0)
      refine lv_aload_n hx hb dX1_drop_24 rfl (lv_at hl 0 rfl) ?_
      refine va_get (D := (dC, dI)) (ci := 1) (v := .ref b7) (C := RX1) (T := TX1) (N := 12) hx hb hts inX1 hown hK hP 0 rfl rfl 7 (by decide) (hts _ bw_fl_X1_30) (fun _ h9 => h9) rfl dX1_drop_25 ?_
      refine lv_iload_n hx hb dX1_drop_28 rfl (lv_at hl 1 rfl) ?_
      refine lv_iconst (v := 0) hx hb dX1_drop_29 (by decide) ?_
      refine hw_topi (y := nI 0) (nI_0.symm) ?_
      refine hw_iast (j := j) hx hb hK hP hD hS 7 6 rfl rfl (hrj) (hj) (by decide) dX1_drop_30 (fun H locs hP hD hS => ?_)
      have hP : va_P (dC, dI) vwCl [(g0, .inr (1, [.int (nI k), .ref b1, .ref b2, .ref b3, .ref b4, .ref b5, .ref b6, .ref b7, .ref b8, .int ob, .int co, .int tp])), (b1, .inl (e1, 301, .inl kd)), (b2, .inl (e2, 301, .inl zs)), (b3, .inl (e3, 301, .inl od)), (b4, .inl (e4, 12040, .inl lk)), (b5, .inl (e5, 12040, .inr (.inl nu))), (b6, .inl (e6, 301, .inl rb)), (b7, .inl (e7, 16, .inl (upd rg j (nI 0)))), (b8, .inl (e8, 301, .inl td))] H := hP
      have hD : va_D A [(g0, .inr (1, [.int (nI k), .ref b1, .ref b2, .ref b3, .ref b4, .ref b5, .ref b6, .ref b7, .ref b8, .int ob, .int co, .int tp])), (b1, .inl (e1, 301, .inl kd)), (b2, .inl (e2, 301, .inl zs)), (b3, .inl (e3, 301, .inl od)), (b4, .inl (e4, 12040, .inl lk)), (b5, .inl (e5, 12040, .inr (.inl nu))), (b6, .inl (e6, 301, .inl rb)), (b7, .inl (e7, 16, .inl (upd rg j (nI 0)))), (b8, .inl (e8, 301, .inl td))] := hD
      subst hQ9
      exact W.vret hx hb hr (fun t ht hWm => ⟨⟨((nI k), (upd rg j (nI 0))), rfl, ⟨rfl, by unfold hp_dd; rw [if_pos hk0, hrj, nI_clamp (by omega)]; exact hp_sr_Q hQ j 0⟩, by rw [ht]; exact hP, va_K.moved hWm.alike hK, hD⟩, hS.F ht⟩) hS.2.2 dX1_drop_31
  refine lv_aload_n hx hb dX1_drop_0 rfl (lv_at hl 0 rfl) ?_
  refine lv_aload_n hx hb dX1_drop_1 rfl (lv_at hl 0 rfl) ?_
  refine lv_iload_n hx hb dX1_drop_2 rfl (lv_at hl 1 rfl) ?_
  by_cases hr1 : hp_bad r 16
  · skip
    refine W.callR (W.runV (As := [.int r]) (rest := [.ref g0]) ⟨hx, hb, hml, hown, hts⟩ (c0_X1_isRegister l dC dI g0 b1 b2 b3 b4 b5 b6 b7 b8 e1 e2 e3 e4 e5 e6 e7 e8 th kd zs od lk nu rb rg td ob co tp _ hr1) (cwV 1 hts gw_X1_64 rfl rfl rfl ⟨rfl, by decide, by decide, by decide +kernel⟩ ⟨Nat.le_of_ble_eq_true rfl, Nat.le_of_ble_eq_true rfl⟩) ⟨hw_blind, va_recv (q0 := 0) (ci := 1) (q := (RX1, TX1, 12)) hK hP rfl rfl, hw_pay hP hK hD⟩ rfl rfl hl.1 rfl (lv_room (Nat.le_of_ble_eq_true rfl)) dX1_drop_3 ⟨by decide, by decide⟩) ?_
    refine W.eq (g2 := F0 m 6 ls [.int 0, .ref g0]) rfl ?_
    refine lv_if_ne hx hb dX1_drop_6 (tgt := 13) (by decide) (fun hc => ?_) (fun hc => ?_)
    · exact absurd rfl hc
    · skip
      refine lv_iconst (v := 1) hx hb dX1_drop_9 (by decide) ?_
      refine lv_goto hx hb dX1_drop_10 (tgt := 14) (by decide) ?_
      refine hw_topi (y := nI k) (by rw [hp_ck_y hk hr1]; decide) ?_
      exact tail () H locs ls (trivial) hP hD hS (lv_sub hl [0, 1] rfl)
  · skip
    refine W.callR (W.runV (As := [.int r]) (rest := [.ref g0]) ⟨hx, hb, hml, hown, hts⟩ (c1_X1_isRegister l dC dI g0 b1 b2 b3 b4 b5 b6 b7 b8 e1 e2 e3 e4 e5 e6 e7 e8 th kd zs od lk nu rb rg td ob co tp _ hr1) (cwV 1 hts gw_X1_64 rfl rfl rfl ⟨rfl, by decide, by decide, by decide +kernel⟩ ⟨Nat.le_of_ble_eq_true rfl, Nat.le_of_ble_eq_true rfl⟩) ⟨hw_blind, va_recv (q0 := 0) (ci := 1) (q := (RX1, TX1, 12)) hK hP rfl rfl, hw_pay hP hK hD⟩ rfl rfl hl.1 rfl (lv_room (Nat.le_of_ble_eq_true rfl)) dX1_drop_3 ⟨by decide, by decide⟩) ?_
    refine W.eq (g2 := F0 m 6 ls [.int 1, .ref g0]) rfl ?_
    refine lv_if_ne hx hb dX1_drop_6 (tgt := 13) (by decide) (fun hc => ?_) (fun hc => ?_)
    · skip
      refine lv_iconst (v := 0) hx hb dX1_drop_13 (by decide) ?_
      refine hw_topi (y := nI k) (by rw [hp_ck_n hk hr1]; decide) ?_
      exact tail () H locs ls (trivial) hP hD hS (lv_sub hl [0, 1] rfl)
    · exact absurd hc hp_10

set_option maxHeartbeats 4000000 in
set_option maxRecDepth 100000 in
theorem c_X1_copy (l : Launch) (dC : Nat → ClassId) (dI : Nat → Nat → Nat) (g0 b1 b2 b3 b4 b5 b6 b7 b8 : Nat) (e1 e2 e3 e4 e5 e6 e7 e8 : ClassId) (th : Int32) (kd zs od lk : Nat → Int32) (nu : Nat → Int64) (rb rg td : Nat → Int32) (ob co tp : Int32) (sz : Nat) (M : hp_S) (hW : hp_W M) (hQ : hp_Q M kd zs od lk nu rg ob co) (r y : Int32) (k : Nat) (hk : hp_ck (hp_bad r 16 ∨ hp_bad y 16) k) : Met l yX1_copy wsX1_copy ({ frames := 1, cells := 0, slots := 0, locals := 21 }) (va_Pc [.ref g0, .int r, .int y] (hw_pre (dC, dI) vwCl [(e1, .int), (e2, .int), (e3, .int), (e4, .int), (e5, .long), (e6, .boolean), (e7, .int), (e8, .int)] [(g0, .inr (1, [.int th, .ref b1, .ref b2, .ref b3, .ref b4, .ref b5, .ref b6, .ref b7, .ref b8, .int ob, .int co, .int tp])), (b1, .inl (e1, 301, .inl kd)), (b2, .inl (e2, 301, .inl zs)), (b3, .inl (e3, 301, .inl od)), (b4, .inl (e4, 12040, .inl lk)), (b5, .inl (e5, 12040, .inr (.inl nu))), (b6, .inl (e6, 301, .inl rb)), (b7, .inl (e7, 16, .inl rg)), (b8, .inl (e8, 301, .inl td))] sz)) (va_Qv (fun u : Int32 × (Nat → Int32) => u.1 = nI k ∧ hp_Q (hp_dc M r y k) kd zs od lk nu u.2 ob co) (fun u t => hw_B (dC, dI) vwCl [(e1, .int), (e2, .int), (e3, .int), (e4, .int), (e5, .long), (e6, .boolean), (e7, .int), (e8, .int)] (va_A [(g0, .inr (1, [.int th, .ref b1, .ref b2, .ref b3, .ref b4, .ref b5, .ref b6, .ref b7, .ref b8, .int ob, .int co, .int tp])), (b1, .inl (e1, 301, .inl kd)), (b2, .inl (e2, 301, .inl zs)), (b3, .inl (e3, 301, .inl od)), (b4, .inl (e4, 12040, .inl lk)), (b5, .inl (e5, 12040, .inr (.inl nu))), (b6, .inl (e6, 301, .inl rb)), (b7, .inl (e7, 16, .inl rg)), (b8, .inl (e8, 301, .inl td))] sz) ((fun u : Int32 × (Nat → Int32) => [(g0, .inr (1, [.int u.1, .ref b1, .ref b2, .ref b3, .ref b4, .ref b5, .ref b6, .ref b7, .ref b8, .int ob, .int co, .int tp])), (b1, .inl (e1, 301, .inl kd)), (b2, .inl (e2, 301, .inl zs)), (b3, .inl (e3, 301, .inl od)), (b4, .inl (e4, 12040, .inl lk)), (b5, .inl (e5, 12040, .inr (.inl nu))), (b6, .inl (e6, 301, .inl rb)), (b7, .inl (e7, 16, .inl u.2)), (b8, .inl (e8, 301, .inl td))]) u) t) (va_A [(g0, .inr (1, [.int th, .ref b1, .ref b2, .ref b3, .ref b4, .ref b5, .ref b6, .ref b7, .ref b8, .int ob, .int co, .int tp])), (b1, .inl (e1, 301, .inl kd)), (b2, .inl (e2, 301, .inl zs)), (b3, .inl (e3, 301, .inl od)), (b4, .inl (e4, 12040, .inl lk)), (b5, .inl (e5, 12040, .inr (.inl nu))), (b6, .inl (e6, 301, .inl rb)), (b7, .inl (e7, 16, .inl rg)), (b8, .inl (e8, 301, .inl td))] sz)) 0 0 (va_A [(g0, .inr (1, [.int th, .ref b1, .ref b2, .ref b3, .ref b4, .ref b5, .ref b6, .ref b7, .ref b8, .int ob, .int co, .int tp])), (b1, .inl (e1, 301, .inl kd)), (b2, .inl (e2, 301, .inl zs)), (b3, .inl (e3, 301, .inl od)), (b4, .inl (e4, 12040, .inl lk)), (b5, .inl (e5, 12040, .inr (.inl nu))), (b6, .inl (e6, 301, .inl rb)), (b7, .inl (e7, 16, .inl rg)), (b8, .inl (e8, 301, .inl td))] sz) := by
  refine Met.ofW (cc := cX1_copy) (maxL := 3) (ret := none) (by decide) rfl ?_
  intro p e s m args below meth c s₁ B hml hv
  obtain ⟨hargs, hsz, hP, hK, hD0⟩ := hv
  have hx := B.exec
  have hb := B.bytes
  have hr := B.returns
  have hts : ∀ w ∈ wb, w.before _ s = true := fun w h => atoms_spec (ws := wsX1_copy) B.pre w (List.mem_cons_of_mem _ h)
  have hown : s.vm.findClass RX1 = some m.cls := findClass_of_methodNamed B.named
  have hlocks := B.notSynchronized
  subst hsz
  have hD := hD0.self (sz := s.heap.size)
  generalize hAe : va_A [(g0, .inr (1, [.int th, .ref b1, .ref b2, .ref b3, .ref b4, .ref b5, .ref b6, .ref b7, .ref b8, .int ob, .int co, .int tp])), (b1, .inl (e1, 301, .inl kd)), (b2, .inl (e2, 301, .inl zs)), (b3, .inl (e3, 301, .inl od)), (b4, .inl (e4, 12040, .inl lk)), (b5, .inl (e5, 12040, .inr (.inl nu))), (b6, .inl (e6, 301, .inl rb)), (b7, .inl (e7, 16, .inl rg)), (b8, .inl (e8, 301, .inl td))] s.heap.size = A at hD ⊢
  have hA : ∀ q : Nat, s.heap.size ≤ q → A q := fun q h => by rw [← hAe]; exact Or.inr h
  have hS : va_S A s.heap s.heap [] := va_S.rf
  generalize hQ9 : MQ below (va_Qv (fun u : Int32 × (Nat → Int32) => u.1 = nI k ∧ hp_Q (hp_dc M r y k) kd zs od lk nu u.2 ob co) (fun u t => hw_B (dC, dI) vwCl [(e1, .int), (e2, .int), (e3, .int), (e4, .int), (e5, .long), (e6, .boolean), (e7, .int), (e8, .int)] A ((fun u : Int32 × (Nat → Int32) => [(g0, .inr (1, [.int u.1, .ref b1, .ref b2, .ref b3, .ref b4, .ref b5, .ref b6, .ref b7, .ref b8, .int ob, .int co, .int tp])), (b1, .inl (e1, 301, .inl kd)), (b2, .inl (e2, 301, .inl zs)), (b3, .inl (e3, 301, .inl od)), (b4, .inl (e4, 12040, .inl lk)), (b5, .inl (e5, 12040, .inr (.inl nu))), (b6, .inl (e6, 301, .inl rb)), (b7, .inl (e7, 16, .inl u.2)), (b8, .inl (e8, 301, .inl td))]) u) t) A) args s 0 0 A = Q9
  have hl := lv_entry ([.ref g0, .int r, .int y]) (n := 3) (Nat.le_of_ble_eq_true rfl)
  rw [show entryFrame m args 3 = _ from (congrArg (fun z => entryFrame m z 3) hargs).trans (lg_entry_eq m [.ref g0, .int r, .int y] 3)]
  generalize (lg_sl ([.ref g0, .int r, .int y]) ++ List.replicate (3 - (lg_sl ([.ref g0, .int r, .int y])).length) Slot.unset).toArray = ls at hl ⊢
  have hl : lv_has ls 3 [(0, .ref g0), (1, .int r), (2, .int y)] := hl
  obtain ⟨H, hH⟩ : ∃ H, H = s.heap := ⟨_, rfl⟩
  rw [← hH] at hP
  have hS : va_S A s.heap H [] := by rw [hH]; exact hS
  rw [← hH]
  generalize ([] : List Loc) = locs at hS ⊢
  have hk4 := hp_ck_lt hk
  have tail : ∀ (z9 : Unit) (H : Heap) (locs : List Loc) (ls : Array Slot), (True) → va_P (dC, dI) vwCl [(g0, .inr (1, [.int th, .ref b1, .ref b2, .ref b3, .ref b4, .ref b5, .ref b6, .ref b7, .ref b8, .int ob, .int co, .int tp])), (b1, .inl (e1, 301, .inl kd)), (b2, .inl (e2, 301, .inl zs)), (b3, .inl (e3, 301, .inl od)), (b4, .inl (e4, 12040, .inl lk)), (b5, .inl (e5, 12040, .inr (.inl nu))), (b6, .inl (e6, 301, .inl rb)), (b7, .inl (e7, 16, .inl rg)), (b8, .inl (e8, 301, .inl td))] H → va_D A [(g0, .inr (1, [.int th, .ref b1, .ref b2, .ref b3, .ref b4, .ref b5, .ref b6, .ref b7, .ref b8, .int ob, .int co, .int tp])), (b1, .inl (e1, 301, .inl kd)), (b2, .inl (e2, 301, .inl zs)), (b3, .inl (e3, 301, .inl od)), (b4, .inl (e4, 12040, .inl lk)), (b5, .inl (e5, 12040, .inr (.inl nu))), (b6, .inl (e6, 301, .inl rb)), (b7, .inl (e7, 16, .inl rg)), (b8, .inl (e8, 301, .inl td))] → va_S A s.heap H locs → lv_has ls 3 [(0, .ref g0), (1, .int r), (2, .int y)] → W p l e (headSpec wsX1_copy ({ frames := 1, cells := 0, slots := 0, locals := 21 })).room s m args below meth c H locs 0 0 Q9 (F0 m 22 ls [.int (nI k), .ref g0]) := by
    intro z9 H locs ls hI hP hD hS hl
    refine va_put (D := (dC, dI)) (ci := 1) (v := .int (nI k)) (ty := .int) (C := RX1) (T := TX1) (N := 12) hx hb hts inX1 tyX1 tyX1_ok nmX1 hown hK hP hD hS 0 rfl rfl 0 (by decide) (hts _ bw_fl_X1_36) (fun _ h9 => h9) rfl (by decide +kernel) rfl rfl (Nat.le_of_ble_eq_true rfl) dX1_copy_22 (fun H locs hP hD hS => ?_)
    have hP : va_P (dC, dI) vwCl [(g0, .inr (1, [.int (nI k), .ref b1, .ref b2, .ref b3, .ref b4, .ref b5, .ref b6, .ref b7, .ref b8, .int ob, .int co, .int tp])), (b1, .inl (e1, 301, .inl kd)), (b2, .inl (e2, 301, .inl zs)), (b3, .inl (e3, 301, .inl od)), (b4, .inl (e4, 12040, .inl lk)), (b5, .inl (e5, 12040, .inr (.inl nu))), (b6, .inl (e6, 301, .inl rb)), (b7, .inl (e7, 16, .inl rg)), (b8, .inl (e8, 301, .inl td))] H := hP
    have hD : va_D A [(g0, .inr (1, [.int (nI k), .ref b1, .ref b2, .ref b3, .ref b4, .ref b5, .ref b6, .ref b7, .ref b8, .int ob, .int co, .int tp])), (b1, .inl (e1, 301, .inl kd)), (b2, .inl (e2, 301, .inl zs)), (b3, .inl (e3, 301, .inl od)), (b4, .inl (e4, 12040, .inl lk)), (b5, .inl (e5, 12040, .inr (.inl nu))), (b6, .inl (e6, 301, .inl rb)), (b7, .inl (e7, 16, .inl rg)), (b8, .inl (e8, 301, .inl td))] := hD
    refine lv_aload_n hx hb dX1_copy_25 rfl (lv_at hl 0 rfl) ?_
    refine va_get (D := (dC, dI)) (ci := 1) (v := .int (nI k)) (C := RX1) (T := TX1) (N := 12) hx hb hts inX1 hown hK hP 0 rfl rfl 0 (by decide) (hts _ bw_fl_X1_36) (fun _ h9 => h9) rfl dX1_copy_26 ?_
    refine lv_if_ne hx hb dX1_copy_29 (tgt := 44) (by decide) (fun hc => ?_) (fun hc => ?_)
    · have hk0 : k ≠ 0 := fun h9 => hc ((hp_k0 hk4).mpr h9)
      subst hQ9
      exact W.vret hx hb hr (fun t ht hWm => ⟨⟨((nI k), rg), rfl, ⟨rfl, by unfold hp_dc; rw [if_neg hk0]; exact hQ⟩, by rw [ht]; exact hP, va_K.moved hWm.alike hK, hD⟩, hS.F ht⟩) hS.2.2 dX1_copy_44
    · have hk0 : k = 0 := (hp_k0 hk4).mp hc
      have hnb := hp_ck_0 hk hk0
      obtain ⟨j, hj, hrj⟩ := hp_ok' (fun h9 => hnb (Or.inl h9))
      obtain ⟨i, hi, hyi⟩ := hp_ok' (fun h9 => hnb (Or.inr h9))
      refine lv_aload_n hx hb dX1_copy_32 rfl (lv_at hl 0 rfl) ?_
      refine va_get (D := (dC, dI)) (ci := 1) (v := .ref b7) (C := RX1) (T := TX1) (N := 12) hx hb hts inX1 hown hK hP 0 rfl rfl 7 (by decide) (hts _ bw_fl_X1_30) (fun _ h9 => h9) rfl dX1_copy_33 ?_
      refine lv_iload_n hx hb dX1_copy_36 rfl (lv_at hl 1 rfl) ?_
      refine lv_aload_n hx hb dX1_copy_37 rfl (lv_at hl 0 rfl) ?_
      refine va_get (D := (dC, dI)) (ci := 1) (v := .ref b7) (C := RX1) (T := TX1) (N := 12) hx hb hts inX1 hown hK hP 0 rfl rfl 7 (by decide) (hts _ bw_fl_X1_30) (fun _ h9 => h9) rfl dX1_copy_38 ?_
      refine lv_iload_n hx hb dX1_copy_41 rfl (lv_at hl 2 rfl) ?_
      refine hw_iald (j := i) hx hb hK hP 7 6 rfl rfl (hyi) (hi) (by decide) dX1_copy_42 ?_
      refine hw_topi (y := nI (hp_r M i)) (hQ.2.2.1 i hi) ?_
      refine hw_iast (j := j) hx hb hK hP hD hS 7 6 rfl rfl (hrj) (hj) (by decide) dX1_copy_43 (fun H locs hP hD hS => ?_)
      have hP : va_P (dC, dI) vwCl [(g0, .inr (1, [.int (nI k), .ref b1, .ref b2, .ref b3, .ref b4, .ref b5, .ref b6, .ref b7, .ref b8, .int ob, .int co, .int tp])), (b1, .inl (e1, 301, .inl kd)), (b2, .inl (e2, 301, .inl zs)), (b3, .inl (e3, 301, .inl od)), (b4, .inl (e4, 12040, .inl lk)), (b5, .inl (e5, 12040, .inr (.inl nu))), (b6, .inl (e6, 301, .inl rb)), (b7, .inl (e7, 16, .inl (upd rg j (nI (hp_r M i))))), (b8, .inl (e8, 301, .inl td))] H := hP
      have hD : va_D A [(g0, .inr (1, [.int (nI k), .ref b1, .ref b2, .ref b3, .ref b4, .ref b5, .ref b6, .ref b7, .ref b8, .int ob, .int co, .int tp])), (b1, .inl (e1, 301, .inl kd)), (b2, .inl (e2, 301, .inl zs)), (b3, .inl (e3, 301, .inl od)), (b4, .inl (e4, 12040, .inl lk)), (b5, .inl (e5, 12040, .inr (.inl nu))), (b6, .inl (e6, 301, .inl rb)), (b7, .inl (e7, 16, .inl (upd rg j (nI (hp_r M i))))), (b8, .inl (e8, 301, .inl td))] := hD
      subst hQ9
      exact W.vret hx hb hr (fun t ht hWm => ⟨⟨((nI k), (upd rg j (nI (hp_r M i)))), rfl, ⟨rfl, by unfold hp_dc; rw [if_pos hk0, hp_atE hyi hi, hrj, nI_clamp (by omega)]; exact hp_sr_Q hQ j _⟩, by rw [ht]; exact hP, va_K.moved hWm.alike hK, hD⟩, hS.F ht⟩) hS.2.2 dX1_copy_44
  refine lv_aload_n hx hb dX1_copy_0 rfl (lv_at hl 0 rfl) ?_
  refine lv_aload_n hx hb dX1_copy_1 rfl (lv_at hl 0 rfl) ?_
  refine lv_iload_n hx hb dX1_copy_2 rfl (lv_at hl 1 rfl) ?_
  by_cases hr1 : hp_bad r 16
  · skip
    refine W.callR (W.runV (As := [.int r]) (rest := [.ref g0]) ⟨hx, hb, hml, hown, hts⟩ (c0_X1_isRegister l dC dI g0 b1 b2 b3 b4 b5 b6 b7 b8 e1 e2 e3 e4 e5 e6 e7 e8 th kd zs od lk nu rb rg td ob co tp _ hr1) (cwV 1 hts gw_X1_64 rfl rfl rfl ⟨rfl, by decide, by decide, by decide +kernel⟩ ⟨Nat.le_of_ble_eq_true rfl, Nat.le_of_ble_eq_true rfl⟩) ⟨hw_blind, va_recv (q0 := 0) (ci := 1) (q := (RX1, TX1, 12)) hK hP rfl rfl, hw_pay hP hK hD⟩ rfl rfl hl.1 rfl (lv_room (Nat.le_of_ble_eq_true rfl)) dX1_copy_3 ⟨by decide, by decide⟩) ?_
    refine W.eq (g2 := F0 m 6 ls [.int 0, .ref g0]) rfl ?_
    refine lv_if_eq hx hb dX1_copy_6 (tgt := 17) (by decide) (fun hc => ?_) (fun hc => ?_)
    · skip
      refine lv_iconst (v := 1) hx hb dX1_copy_17 (by decide) ?_
      refine lv_goto hx hb dX1_copy_18 (tgt := 22) (by decide) ?_
      refine hw_topi (y := nI k) (by rw [hp_ck_y hk (Or.inl hr1)]; decide) ?_
      exact tail () H locs ls (trivial) hP hD hS (lv_sub hl [0, 1, 2] rfl)
    · exact absurd rfl hc
  · skip
    refine W.callR (W.runV (As := [.int r]) (rest := [.ref g0]) ⟨hx, hb, hml, hown, hts⟩ (c1_X1_isRegister l dC dI g0 b1 b2 b3 b4 b5 b6 b7 b8 e1 e2 e3 e4 e5 e6 e7 e8 th kd zs od lk nu rb rg td ob co tp _ hr1) (cwV 1 hts gw_X1_64 rfl rfl rfl ⟨rfl, by decide, by decide, by decide +kernel⟩ ⟨Nat.le_of_ble_eq_true rfl, Nat.le_of_ble_eq_true rfl⟩) ⟨hw_blind, va_recv (q0 := 0) (ci := 1) (q := (RX1, TX1, 12)) hK hP rfl rfl, hw_pay hP hK hD⟩ rfl rfl hl.1 rfl (lv_room (Nat.le_of_ble_eq_true rfl)) dX1_copy_3 ⟨by decide, by decide⟩) ?_
    refine W.eq (g2 := F0 m 6 ls [.int 1, .ref g0]) rfl ?_
    refine lv_if_eq hx hb dX1_copy_6 (tgt := 17) (by decide) (fun hc => ?_) (fun hc => ?_)
    · exact absurd hc hp_10
    · skip
      refine lv_aload_n hx hb dX1_copy_9 rfl (lv_at hl 0 rfl) ?_
      refine lv_iload_n hx hb dX1_copy_10 rfl (lv_at hl 2 rfl) ?_
      by_cases hy1 : hp_bad y 16
      · skip
        refine W.callR (W.runV (As := [.int y]) (rest := [.ref g0]) ⟨hx, hb, hml, hown, hts⟩ (c0_X1_isRegister l dC dI g0 b1 b2 b3 b4 b5 b6 b7 b8 e1 e2 e3 e4 e5 e6 e7 e8 th kd zs od lk nu rb rg td ob co tp _ hy1) (cwV 1 hts gw_X1_64 rfl rfl rfl ⟨rfl, by decide, by decide, by decide +kernel⟩ ⟨Nat.le_of_ble_eq_true rfl, Nat.le_of_ble_eq_true rfl⟩) ⟨hw_blind, va_recv (q0 := 0) (ci := 1) (q := (RX1, TX1, 12)) hK hP rfl rfl, hw_pay hP hK hD⟩ rfl rfl hl.1 rfl (lv_room (Nat.le_of_ble_eq_true rfl)) dX1_copy_11 ⟨by decide, by decide⟩) ?_
        refine W.eq (g2 := F0 m 14 ls [.int 0, .ref g0]) rfl ?_
        refine lv_if_ne hx hb dX1_copy_14 (tgt := 21) (by decide) (fun hc => ?_) (fun hc => ?_)
        · exact absurd rfl hc
        · skip
          refine lv_iconst (v := 1) hx hb dX1_copy_17 (by decide) ?_
          refine lv_goto hx hb dX1_copy_18 (tgt := 22) (by decide) ?_
          refine hw_topi (y := nI k) (by rw [hp_ck_y hk (Or.inr hy1)]; decide) ?_
          exact tail () H locs ls (trivial) hP hD hS (lv_sub hl [0, 1, 2] rfl)
      · skip
        refine W.callR (W.runV (As := [.int y]) (rest := [.ref g0]) ⟨hx, hb, hml, hown, hts⟩ (c1_X1_isRegister l dC dI g0 b1 b2 b3 b4 b5 b6 b7 b8 e1 e2 e3 e4 e5 e6 e7 e8 th kd zs od lk nu rb rg td ob co tp _ hy1) (cwV 1 hts gw_X1_64 rfl rfl rfl ⟨rfl, by decide, by decide, by decide +kernel⟩ ⟨Nat.le_of_ble_eq_true rfl, Nat.le_of_ble_eq_true rfl⟩) ⟨hw_blind, va_recv (q0 := 0) (ci := 1) (q := (RX1, TX1, 12)) hK hP rfl rfl, hw_pay hP hK hD⟩ rfl rfl hl.1 rfl (lv_room (Nat.le_of_ble_eq_true rfl)) dX1_copy_11 ⟨by decide, by decide⟩) ?_
        refine W.eq (g2 := F0 m 14 ls [.int 1, .ref g0]) rfl ?_
        refine lv_if_ne hx hb dX1_copy_14 (tgt := 21) (by decide) (fun hc => ?_) (fun hc => ?_)
        · skip
          refine lv_iconst (v := 0) hx hb dX1_copy_21 (by decide) ?_
          refine hw_topi (y := nI k) (by rw [hp_ck_n hk (fun h9 => h9.elim hr1 hy1)]; decide) ?_
          exact tail () H locs ls (trivial) hP hD hS (lv_sub hl [0, 1, 2] rfl)
        · exact absurd hc hp_10

set_option maxHeartbeats 4000000 in
set_option maxRecDepth 100000 in
theorem c_X1_link (l : Launch) (dC : Nat → ClassId) (dI : Nat → Nat → Nat) (g0 b1 b2 b3 b4 b5 b6 b7 b8 : Nat) (e1 e2 e3 e4 e5 e6 e7 e8 : ClassId) (th : Int32) (kd zs od lk : Nat → Int32) (nu : Nat → Int64) (rb rg td : Nat → Int32) (ob co tp : Int32) (sz : Nat) (M : hp_S) (hW : hp_W M) (hQ : hp_Q M kd zs od lk nu rg ob co) (r i y : Int32) (k : Nat) (hk : hp_lk M (hp_bad r 16 ∨ hp_bad y 16) (hp_at M r) i (hp_k M (hp_at M r) = 1) k) : Met l yX1_link wsX1_link ({ frames := 1, cells := 0, slots := 0, locals := 23 }) (va_Pc [.ref g0, .int r, .int i, .int y] (hw_pre (dC, dI) vwCl [(e1, .int), (e2, .int), (e3, .int), (e4, .int), (e5, .long), (e6, .boolean), (e7, .int), (e8, .int)] [(g0, .inr (1, [.int th, .ref b1, .ref b2, .ref b3, .ref b4, .ref b5, .ref b6, .ref b7, .ref b8, .int ob, .int co, .int tp])), (b1, .inl (e1, 301, .inl kd)), (b2, .inl (e2, 301, .inl zs)), (b3, .inl (e3, 301, .inl od)), (b4, .inl (e4, 12040, .inl lk)), (b5, .inl (e5, 12040, .inr (.inl nu))), (b6, .inl (e6, 301, .inl rb)), (b7, .inl (e7, 16, .inl rg)), (b8, .inl (e8, 301, .inl td))] sz)) (va_Qv (fun u : Int32 × (Nat → Int32) => u.1 = nI k ∧ hp_Q (hp_dl M r i y k) kd zs od u.2 nu rg ob co) (fun u t => hw_B (dC, dI) vwCl [(e1, .int), (e2, .int), (e3, .int), (e4, .int), (e5, .long), (e6, .boolean), (e7, .int), (e8, .int)] (va_A [(g0, .inr (1, [.int th, .ref b1, .ref b2, .ref b3, .ref b4, .ref b5, .ref b6, .ref b7, .ref b8, .int ob, .int co, .int tp])), (b1, .inl (e1, 301, .inl kd)), (b2, .inl (e2, 301, .inl zs)), (b3, .inl (e3, 301, .inl od)), (b4, .inl (e4, 12040, .inl lk)), (b5, .inl (e5, 12040, .inr (.inl nu))), (b6, .inl (e6, 301, .inl rb)), (b7, .inl (e7, 16, .inl rg)), (b8, .inl (e8, 301, .inl td))] sz) ((fun u : Int32 × (Nat → Int32) => [(g0, .inr (1, [.int u.1, .ref b1, .ref b2, .ref b3, .ref b4, .ref b5, .ref b6, .ref b7, .ref b8, .int ob, .int co, .int tp])), (b1, .inl (e1, 301, .inl kd)), (b2, .inl (e2, 301, .inl zs)), (b3, .inl (e3, 301, .inl od)), (b4, .inl (e4, 12040, .inl u.2)), (b5, .inl (e5, 12040, .inr (.inl nu))), (b6, .inl (e6, 301, .inl rb)), (b7, .inl (e7, 16, .inl rg)), (b8, .inl (e8, 301, .inl td))]) u) t) (va_A [(g0, .inr (1, [.int th, .ref b1, .ref b2, .ref b3, .ref b4, .ref b5, .ref b6, .ref b7, .ref b8, .int ob, .int co, .int tp])), (b1, .inl (e1, 301, .inl kd)), (b2, .inl (e2, 301, .inl zs)), (b3, .inl (e3, 301, .inl od)), (b4, .inl (e4, 12040, .inl lk)), (b5, .inl (e5, 12040, .inr (.inl nu))), (b6, .inl (e6, 301, .inl rb)), (b7, .inl (e7, 16, .inl rg)), (b8, .inl (e8, 301, .inl td))] sz)) 0 0 (va_A [(g0, .inr (1, [.int th, .ref b1, .ref b2, .ref b3, .ref b4, .ref b5, .ref b6, .ref b7, .ref b8, .int ob, .int co, .int tp])), (b1, .inl (e1, 301, .inl kd)), (b2, .inl (e2, 301, .inl zs)), (b3, .inl (e3, 301, .inl od)), (b4, .inl (e4, 12040, .inl lk)), (b5, .inl (e5, 12040, .inr (.inl nu))), (b6, .inl (e6, 301, .inl rb)), (b7, .inl (e7, 16, .inl rg)), (b8, .inl (e8, 301, .inl td))] sz) := by
  refine Met.ofW (cc := cX1_link) (maxL := 4) (ret := none) (by decide) rfl ?_
  intro p e s m args below meth c s₁ B hml hv
  obtain ⟨hargs, hsz, hP, hK, hD0⟩ := hv
  have hx := B.exec
  have hb := B.bytes
  have hr := B.returns
  have hts : ∀ w ∈ wb, w.before _ s = true := fun w h => atoms_spec (ws := wsX1_link) B.pre w (List.mem_cons_of_mem _ h)
  have hown : s.vm.findClass RX1 = some m.cls := findClass_of_methodNamed B.named
  have hlocks := B.notSynchronized
  subst hsz
  have hD := hD0.self (sz := s.heap.size)
  generalize hAe : va_A [(g0, .inr (1, [.int th, .ref b1, .ref b2, .ref b3, .ref b4, .ref b5, .ref b6, .ref b7, .ref b8, .int ob, .int co, .int tp])), (b1, .inl (e1, 301, .inl kd)), (b2, .inl (e2, 301, .inl zs)), (b3, .inl (e3, 301, .inl od)), (b4, .inl (e4, 12040, .inl lk)), (b5, .inl (e5, 12040, .inr (.inl nu))), (b6, .inl (e6, 301, .inl rb)), (b7, .inl (e7, 16, .inl rg)), (b8, .inl (e8, 301, .inl td))] s.heap.size = A at hD ⊢
  have hA : ∀ q : Nat, s.heap.size ≤ q → A q := fun q h => by rw [← hAe]; exact Or.inr h
  have hS : va_S A s.heap s.heap [] := va_S.rf
  generalize hQ9 : MQ below (va_Qv (fun u : Int32 × (Nat → Int32) => u.1 = nI k ∧ hp_Q (hp_dl M r i y k) kd zs od u.2 nu rg ob co) (fun u t => hw_B (dC, dI) vwCl [(e1, .int), (e2, .int), (e3, .int), (e4, .int), (e5, .long), (e6, .boolean), (e7, .int), (e8, .int)] A ((fun u : Int32 × (Nat → Int32) => [(g0, .inr (1, [.int u.1, .ref b1, .ref b2, .ref b3, .ref b4, .ref b5, .ref b6, .ref b7, .ref b8, .int ob, .int co, .int tp])), (b1, .inl (e1, 301, .inl kd)), (b2, .inl (e2, 301, .inl zs)), (b3, .inl (e3, 301, .inl od)), (b4, .inl (e4, 12040, .inl u.2)), (b5, .inl (e5, 12040, .inr (.inl nu))), (b6, .inl (e6, 301, .inl rb)), (b7, .inl (e7, 16, .inl rg)), (b8, .inl (e8, 301, .inl td))]) u) t) A) args s 0 0 A = Q9
  have hl := lv_entry ([.ref g0, .int r, .int i, .int y]) (n := 4) (Nat.le_of_ble_eq_true rfl)
  rw [show entryFrame m args 4 = _ from (congrArg (fun z => entryFrame m z 4) hargs).trans (lg_entry_eq m [.ref g0, .int r, .int i, .int y] 4)]
  generalize (lg_sl ([.ref g0, .int r, .int i, .int y]) ++ List.replicate (4 - (lg_sl ([.ref g0, .int r, .int i, .int y])).length) Slot.unset).toArray = ls at hl ⊢
  have hl : lv_has ls 4 [(0, .ref g0), (1, .int r), (2, .int i), (3, .int y)] := hl
  obtain ⟨H, hH⟩ : ∃ H, H = s.heap := ⟨_, rfl⟩
  rw [← hH] at hP
  have hS : va_S A s.heap H [] := by rw [hH]; exact hS
  rw [← hH]
  generalize ([] : List Loc) = locs at hS ⊢
  have hk4 := hp_lk_lt hk
  have tail : ∀ (z9 : Unit) (H : Heap) (locs : List Loc) (ls : Array Slot), (True) → va_P (dC, dI) vwCl [(g0, .inr (1, [.int th, .ref b1, .ref b2, .ref b3, .ref b4, .ref b5, .ref b6, .ref b7, .ref b8, .int ob, .int co, .int tp])), (b1, .inl (e1, 301, .inl kd)), (b2, .inl (e2, 301, .inl zs)), (b3, .inl (e3, 301, .inl od)), (b4, .inl (e4, 12040, .inl lk)), (b5, .inl (e5, 12040, .inr (.inl nu))), (b6, .inl (e6, 301, .inl rb)), (b7, .inl (e7, 16, .inl rg)), (b8, .inl (e8, 301, .inl td))] H → va_D A [(g0, .inr (1, [.int th, .ref b1, .ref b2, .ref b3, .ref b4, .ref b5, .ref b6, .ref b7, .ref b8, .int ob, .int co, .int tp])), (b1, .inl (e1, 301, .inl kd)), (b2, .inl (e2, 301, .inl zs)), (b3, .inl (e3, 301, .inl od)), (b4, .inl (e4, 12040, .inl lk)), (b5, .inl (e5, 12040, .inr (.inl nu))), (b6, .inl (e6, 301, .inl rb)), (b7, .inl (e7, 16, .inl rg)), (b8, .inl (e8, 301, .inl td))] → va_S A s.heap H locs → lv_has ls 4 [(0, .ref g0), (1, .int r), (2, .int i), (3, .int y)] → W p l e (headSpec wsX1_link ({ frames := 1, cells := 0, slots := 0, locals := 23 })).room s m args below meth c H locs 0 0 Q9 (F0 m 54 ls [.int (nI k), .ref g0]) := by
    intro z9 H locs ls hI hP hD hS hl
    refine va_put (D := (dC, dI)) (ci := 1) (v := .int (nI k)) (ty := .int) (C := RX1) (T := TX1) (N := 12) hx hb hts inX1 tyX1 tyX1_ok nmX1 hown hK hP hD hS 0 rfl rfl 0 (by decide) (hts _ bw_fl_X1_36) (fun _ h9 => h9) rfl (by decide +kernel) rfl rfl (Nat.le_of_ble_eq_true rfl) dX1_link_54 (fun H locs hP hD hS => ?_)
    have hP : va_P (dC, dI) vwCl [(g0, .inr (1, [.int (nI k), .ref b1, .ref b2, .ref b3, .ref b4, .ref b5, .ref b6, .ref b7, .ref b8, .int ob, .int co, .int tp])), (b1, .inl (e1, 301, .inl kd)), (b2, .inl (e2, 301, .inl zs)), (b3, .inl (e3, 301, .inl od)), (b4, .inl (e4, 12040, .inl lk)), (b5, .inl (e5, 12040, .inr (.inl nu))), (b6, .inl (e6, 301, .inl rb)), (b7, .inl (e7, 16, .inl rg)), (b8, .inl (e8, 301, .inl td))] H := hP
    have hD : va_D A [(g0, .inr (1, [.int (nI k), .ref b1, .ref b2, .ref b3, .ref b4, .ref b5, .ref b6, .ref b7, .ref b8, .int ob, .int co, .int tp])), (b1, .inl (e1, 301, .inl kd)), (b2, .inl (e2, 301, .inl zs)), (b3, .inl (e3, 301, .inl od)), (b4, .inl (e4, 12040, .inl lk)), (b5, .inl (e5, 12040, .inr (.inl nu))), (b6, .inl (e6, 301, .inl rb)), (b7, .inl (e7, 16, .inl rg)), (b8, .inl (e8, 301, .inl td))] := hD
    refine lv_aload_n hx hb dX1_link_57 rfl (lv_at hl 0 rfl) ?_
    refine va_get (D := (dC, dI)) (ci := 1) (v := .int (nI k)) (C := RX1) (T := TX1) (N := 12) hx hb hts inX1 hown hK hP 0 rfl rfl 0 (by decide) (hts _ bw_fl_X1_36) (fun _ h9 => h9) rfl dX1_link_58 ?_
    refine lv_if_ne hx hb dX1_link_61 (tgt := 86) (by decide) (fun hc => ?_) (fun hc => ?_)
    · have hk0 : k ≠ 0 := fun h9 => hc ((hp_k0 hk4).mpr h9)
      subst hQ9
      exact W.vret hx hb hr (fun t ht hWm => ⟨⟨((nI k), lk), rfl, ⟨rfl, by unfold hp_dl; rw [if_neg hk0]; exact hQ⟩, by rw [ht]; exact hP, va_K.moved hWm.alike hK, hD⟩, hS.F ht⟩) hS.2.2 dX1_link_86
    · have hk0 : k = 0 := (hp_k0 hk4).mp hc
      obtain ⟨hnb, h00, hok, hbi⟩ := hp_lk_0 hk hk0
      obtain ⟨j, hj, hRj⟩ := hp_ok' (fun h9 => hnb (Or.inl h9))
      obtain ⟨y1, hy1, hRy⟩ := hp_ok' (fun h9 => hnb (Or.inr h9))
      rw [hp_atE hRj hj] at h00 hok hbi
      have hoL := (hW.2.2.2.1 j hj).resolve_left h00
      have hw9 := hW.2.1 _ hoL
      obtain ⟨q, hq, hiq⟩ := hp_ok hbi (by omega)
      refine lv_aload_n hx hb dX1_link_64 rfl (lv_at hl 0 rfl) ?_
      refine va_get (D := (dC, dI)) (ci := 1) (v := .ref b4) (C := RX1) (T := TX1) (N := 12) hx hb hts inX1 hown hK hP 0 rfl rfl 4 (by decide) (hts _ bw_fl_X1_19) (fun _ h9 => h9) rfl dX1_link_65 ?_
      refine lv_bipush (v := 40) hx hb dX1_link_68 (by decide) ?_
      refine lv_aload_n hx hb dX1_link_70 rfl (lv_at hl 0 rfl) ?_
      refine va_get (D := (dC, dI)) (ci := 1) (v := .ref b7) (C := RX1) (T := TX1) (N := 12) hx hb hts inX1 hown hK hP 0 rfl rfl 7 (by decide) (hts _ bw_fl_X1_30) (fun _ h9 => h9) rfl dX1_link_71 ?_
      refine lv_iload_n hx hb dX1_link_74 rfl (lv_at hl 1 rfl) ?_
      refine hw_iald (j := j) hx hb hK hP 7 6 rfl rfl (hRj) (hj) (by decide) dX1_link_75 ?_
      refine hw_topi (y := nI (hp_r M j)) (hQ.2.2.1 j hj) ?_
      refine lv_imul hx hb dX1_link_76 ?_
      refine lv_iload_n hx hb dX1_link_77 rfl (lv_at hl 2 rfl) ?_
      refine lv_iadd hx hb dX1_link_78 ?_
      refine lv_aload_n hx hb dX1_link_79 rfl (lv_at hl 0 rfl) ?_
      refine va_get (D := (dC, dI)) (ci := 1) (v := .ref b7) (C := RX1) (T := TX1) (N := 12) hx hb hts inX1 hown hK hP 0 rfl rfl 7 (by decide) (hts _ bw_fl_X1_30) (fun _ h9 => h9) rfl dX1_link_80 ?_
      refine lv_iload_n hx hb dX1_link_83 rfl (lv_at hl 3 rfl) ?_
      refine hw_iald (j := y1) hx hb hK hP 7 6 rfl rfl (hRy) (hy1) (by decide) dX1_link_84 ?_
      refine hw_topi (y := nI (hp_r M y1)) (hQ.2.2.1 y1 hy1) ?_
      refine hw_iast (j := 40 * hp_r M j + q) hx hb hK hP hD hS 4 3 rfl rfl (by rw [hiq]; exact hp_40i _ _) (by omega) (by decide) dX1_link_85 (fun H locs hP hD hS => ?_)
      have hP : va_P (dC, dI) vwCl [(g0, .inr (1, [.int (nI k), .ref b1, .ref b2, .ref b3, .ref b4, .ref b5, .ref b6, .ref b7, .ref b8, .int ob, .int co, .int tp])), (b1, .inl (e1, 301, .inl kd)), (b2, .inl (e2, 301, .inl zs)), (b3, .inl (e3, 301, .inl od)), (b4, .inl (e4, 12040, .inl (upd lk (40 * hp_r M j + q) (nI (hp_r M y1))))), (b5, .inl (e5, 12040, .inr (.inl nu))), (b6, .inl (e6, 301, .inl rb)), (b7, .inl (e7, 16, .inl rg)), (b8, .inl (e8, 301, .inl td))] H := hP
      have hD : va_D A [(g0, .inr (1, [.int (nI k), .ref b1, .ref b2, .ref b3, .ref b4, .ref b5, .ref b6, .ref b7, .ref b8, .int ob, .int co, .int tp])), (b1, .inl (e1, 301, .inl kd)), (b2, .inl (e2, 301, .inl zs)), (b3, .inl (e3, 301, .inl od)), (b4, .inl (e4, 12040, .inl (upd lk (40 * hp_r M j + q) (nI (hp_r M y1))))), (b5, .inl (e5, 12040, .inr (.inl nu))), (b6, .inl (e6, 301, .inl rb)), (b7, .inl (e7, 16, .inl rg)), (b8, .inl (e8, 301, .inl td))] := hD
      subst hQ9
      exact W.vret hx hb hr (fun t ht hWm => ⟨⟨((nI k), (upd lk (40 * hp_r M j + q) (nI (hp_r M y1)))), rfl, ⟨rfl, by unfold hp_dl; rw [if_pos hk0, hp_atE hRj hj, hp_atE hRy hy1, hp_cl hiq hq hw9.2.2.2.2.1]; exact hp_sl_Q hW hQ (by omega)⟩, by rw [ht]; exact hP, va_K.moved hWm.alike hK, hD⟩, hS.F ht⟩) hS.2.2 dX1_link_86
  refine lv_aload_n hx hb dX1_link_0 rfl (lv_at hl 0 rfl) ?_
  refine lv_aload_n hx hb dX1_link_1 rfl (lv_at hl 0 rfl) ?_
  refine lv_iload_n hx hb dX1_link_2 rfl (lv_at hl 1 rfl) ?_
  by_cases hr1 : hp_bad r 16
  · skip
    refine W.callR (W.runV (As := [.int r]) (rest := [.ref g0]) ⟨hx, hb, hml, hown, hts⟩ (c0_X1_isRegister l dC dI g0 b1 b2 b3 b4 b5 b6 b7 b8 e1 e2 e3 e4 e5 e6 e7 e8 th kd zs od lk nu rb rg td ob co tp _ hr1) (cwV 1 hts gw_X1_64 rfl rfl rfl ⟨rfl, by decide, by decide, by decide +kernel⟩ ⟨Nat.le_of_ble_eq_true rfl, Nat.le_of_ble_eq_true rfl⟩) ⟨hw_blind, va_recv (q0 := 0) (ci := 1) (q := (RX1, TX1, 12)) hK hP rfl rfl, hw_pay hP hK hD⟩ rfl rfl hl.1 rfl (lv_room (Nat.le_of_ble_eq_true rfl)) dX1_link_3 ⟨by decide, by decide⟩) ?_
    refine W.eq (g2 := F0 m 6 ls [.int 0, .ref g0]) rfl ?_
    refine lv_if_eq hx hb dX1_link_6 (tgt := 17) (by decide) (fun hc => ?_) (fun hc => ?_)
    · skip
      refine lv_iconst (v := 1) hx hb dX1_link_17 (by decide) ?_
      refine lv_goto hx hb dX1_link_18 (tgt := 54) (by decide) ?_
      refine hw_topi (y := nI k) (by rw [hp_lk_y hk (Or.inl hr1)]; decide) ?_
      exact tail () H locs ls (trivial) hP hD hS (lv_sub hl [0, 1, 2, 3] rfl)
    · exact absurd rfl hc
  · skip
    refine W.callR (W.runV (As := [.int r]) (rest := [.ref g0]) ⟨hx, hb, hml, hown, hts⟩ (c1_X1_isRegister l dC dI g0 b1 b2 b3 b4 b5 b6 b7 b8 e1 e2 e3 e4 e5 e6 e7 e8 th kd zs od lk nu rb rg td ob co tp _ hr1) (cwV 1 hts gw_X1_64 rfl rfl rfl ⟨rfl, by decide, by decide, by decide +kernel⟩ ⟨Nat.le_of_ble_eq_true rfl, Nat.le_of_ble_eq_true rfl⟩) ⟨hw_blind, va_recv (q0 := 0) (ci := 1) (q := (RX1, TX1, 12)) hK hP rfl rfl, hw_pay hP hK hD⟩ rfl rfl hl.1 rfl (lv_room (Nat.le_of_ble_eq_true rfl)) dX1_link_3 ⟨by decide, by decide⟩) ?_
    refine W.eq (g2 := F0 m 6 ls [.int 1, .ref g0]) rfl ?_
    refine lv_if_eq hx hb dX1_link_6 (tgt := 17) (by decide) (fun hc => ?_) (fun hc => ?_)
    · exact absurd hc hp_10
    · skip
      refine lv_aload_n hx hb dX1_link_9 rfl (lv_at hl 0 rfl) ?_
      refine lv_iload_n hx hb dX1_link_10 rfl (lv_at hl 3 rfl) ?_
      by_cases hy1 : hp_bad y 16
      · skip
        refine W.callR (W.runV (As := [.int y]) (rest := [.ref g0]) ⟨hx, hb, hml, hown, hts⟩ (c0_X1_isRegister l dC dI g0 b1 b2 b3 b4 b5 b6 b7 b8 e1 e2 e3 e4 e5 e6 e7 e8 th kd zs od lk nu rb rg td ob co tp _ hy1) (cwV 1 hts gw_X1_64 rfl rfl rfl ⟨rfl, by decide, by decide, by decide +kernel⟩ ⟨Nat.le_of_ble_eq_true rfl, Nat.le_of_ble_eq_true rfl⟩) ⟨hw_blind, va_recv (q0 := 0) (ci := 1) (q := (RX1, TX1, 12)) hK hP rfl rfl, hw_pay hP hK hD⟩ rfl rfl hl.1 rfl (lv_room (Nat.le_of_ble_eq_true rfl)) dX1_link_11 ⟨by decide, by decide⟩) ?_
        refine W.eq (g2 := F0 m 14 ls [.int 0, .ref g0]) rfl ?_
        refine lv_if_ne hx hb dX1_link_14 (tgt := 21) (by decide) (fun hc => ?_) (fun hc => ?_)
        · exact absurd rfl hc
        · skip
          refine lv_iconst (v := 1) hx hb dX1_link_17 (by decide) ?_
          refine lv_goto hx hb dX1_link_18 (tgt := 54) (by decide) ?_
          refine hw_topi (y := nI k) (by rw [hp_lk_y hk (Or.inr hy1)]; decide) ?_
          exact tail () H locs ls (trivial) hP hD hS (lv_sub hl [0, 1, 2, 3] rfl)
      · skip
        refine W.callR (W.runV (As := [.int y]) (rest := [.ref g0]) ⟨hx, hb, hml, hown, hts⟩ (c1_X1_isRegister l dC dI g0 b1 b2 b3 b4 b5 b6 b7 b8 e1 e2 e3 e4 e5 e6 e7 e8 th kd zs od lk nu rb rg td ob co tp _ hy1) (cwV 1 hts gw_X1_64 rfl rfl rfl ⟨rfl, by decide, by decide, by decide +kernel⟩ ⟨Nat.le_of_ble_eq_true rfl, Nat.le_of_ble_eq_true rfl⟩) ⟨hw_blind, va_recv (q0 := 0) (ci := 1) (q := (RX1, TX1, 12)) hK hP rfl rfl, hw_pay hP hK hD⟩ rfl rfl hl.1 rfl (lv_room (Nat.le_of_ble_eq_true rfl)) dX1_link_11 ⟨by decide, by decide⟩) ?_
        refine W.eq (g2 := F0 m 14 ls [.int 1, .ref g0]) rfl ?_
        refine lv_if_ne hx hb dX1_link_14 (tgt := 21) (by decide) (fun hc => ?_) (fun hc => ?_)
        · skip
          have hnb : ¬ (hp_bad r 16 ∨ hp_bad y 16) := fun h9 => h9.elim hr1 hy1
          have hcd := hp_lk_n hk hnb
          obtain ⟨j, hj, hRj⟩ := hp_ok' hr1
          rw [hp_atE hRj hj] at hcd
          refine lv_aload_n hx hb dX1_link_21 rfl (lv_at hl 0 rfl) ?_
          refine va_get (D := (dC, dI)) (ci := 1) (v := .ref b7) (C := RX1) (T := TX1) (N := 12) hx hb hts inX1 hown hK hP 0 rfl rfl 7 (by decide) (hts _ bw_fl_X1_30) (fun _ h9 => h9) rfl dX1_link_22 ?_
          refine lv_iload_n hx hb dX1_link_25 rfl (lv_at hl 1 rfl) ?_
          refine hw_iald (j := j) hx hb hK hP 7 6 rfl rfl (hRj) (hj) (by decide) dX1_link_26 ?_
          refine hw_topi (y := nI (hp_r M j)) (hQ.2.2.1 j hj) ?_
          refine lv_if_ne hx hb dX1_link_27 (tgt := 34) (by decide) (fun hc => ?_) (fun hc => ?_)
          · have h00 : hp_r M j ≠ 0 := fun h9 => hc ((hp_r0 hW hj).mpr h9)
            have hoL := (hW.2.2.2.1 j hj).resolve_left h00
            refine lv_aload_n hx hb dX1_link_34 rfl (lv_at hl 0 rfl) ?_
            refine lv_aload_n hx hb dX1_link_35 rfl (lv_at hl 0 rfl) ?_
            refine va_get (D := (dC, dI)) (ci := 1) (v := .ref b7) (C := RX1) (T := TX1) (N := 12) hx hb hts inX1 hown hK hP 0 rfl rfl 7 (by decide) (hts _ bw_fl_X1_30) (fun _ h9 => h9) rfl dX1_link_36 ?_
            refine lv_iload_n hx hb dX1_link_39 rfl (lv_at hl 1 rfl) ?_
            refine hw_iald (j := j) hx hb hK hP 7 6 rfl rfl (hRj) (hj) (by decide) dX1_link_40 ?_
            refine hw_topi (y := nI (hp_r M j)) (hQ.2.2.1 j hj) ?_
            refine lv_iconst (v := 1) hx hb dX1_link_41 (by decide) ?_
            refine lv_iload_n hx hb dX1_link_42 rfl (lv_at hl 2 rfl) ?_
            refine W.eq (g2 := F0 m 43 ls [.int i, .int (nI 1), .int (nI (hp_r M j)), .ref g0, .ref g0]) rfl ?_
            by_cases hwr : (hp_k M (hp_r M j) = 1 ∧ ¬ hp_bad i (hp_z M (hp_r M j)))
            · skip
              refine W.callR (W.runV (As := [.int (nI (hp_r M j)), .int (nI 1), .int i]) (rest := [.ref g0]) ⟨hx, hb, hml, hown, hts⟩ (c0_X1_isWrong l dC dI g0 b1 b2 b3 b4 b5 b6 b7 b8 e1 e2 e3 e4 e5 e6 e7 e8 th kd zs od lk nu rb rg td ob co tp _ M hW hQ (hp_r M j) 1 i hoL (by decide) hwr) (cwV 3 hts gw_X1_75 rfl rfl rfl ⟨rfl, by decide, by decide, by decide +kernel⟩ ⟨Nat.le_of_ble_eq_true rfl, Nat.le_of_ble_eq_true rfl⟩) ⟨hw_blind, va_recv (q0 := 0) (ci := 1) (q := (RX1, TX1, 12)) hK hP rfl rfl, hw_pay hP hK hD⟩ rfl rfl hl.1 rfl (lv_room (Nat.le_of_ble_eq_true rfl)) dX1_link_43 ⟨by decide, by decide⟩) ?_
              refine W.eq (g2 := F0 m 46 ls [.int 0, .ref g0]) rfl ?_
              refine lv_if_eq hx hb dX1_link_46 (tgt := 53) (by decide) (fun hc => ?_) (fun hc => ?_)
              · skip
                refine lv_iconst (v := 0) hx hb dX1_link_53 (by decide) ?_
                refine hw_topi (y := nI k) (by rw [hp_cd_ok h00 hwr.1 hwr.2 hcd]; decide) ?_
                exact tail () H locs ls (trivial) hP hD hS (lv_sub hl [0, 1, 2, 3] rfl)
              · exact absurd rfl hc
            · skip
              refine W.callR (W.runV (As := [.int (nI (hp_r M j)), .int (nI 1), .int i]) (rest := [.ref g0]) ⟨hx, hb, hml, hown, hts⟩ (c1_X1_isWrong l dC dI g0 b1 b2 b3 b4 b5 b6 b7 b8 e1 e2 e3 e4 e5 e6 e7 e8 th kd zs od lk nu rb rg td ob co tp _ M hW hQ (hp_r M j) 1 i hoL (by decide) hwr) (cwV 3 hts gw_X1_75 rfl rfl rfl ⟨rfl, by decide, by decide, by decide +kernel⟩ ⟨Nat.le_of_ble_eq_true rfl, Nat.le_of_ble_eq_true rfl⟩) ⟨hw_blind, va_recv (q0 := 0) (ci := 1) (q := (RX1, TX1, 12)) hK hP rfl rfl, hw_pay hP hK hD⟩ rfl rfl hl.1 rfl (lv_room (Nat.le_of_ble_eq_true rfl)) dX1_link_43 ⟨by decide, by decide⟩) ?_
              refine W.eq (g2 := F0 m 46 ls [.int 1, .ref g0]) rfl ?_
              refine lv_if_eq hx hb dX1_link_46 (tgt := 53) (by decide) (fun hc => ?_) (fun hc => ?_)
              · exact absurd hc hp_10
              · skip
                refine lv_iconst (v := 1) hx hb dX1_link_49 (by decide) ?_
                refine lv_goto hx hb dX1_link_50 (tgt := 54) (by decide) ?_
                refine hw_topi (y := nI k) (by rw [hp_cd_1 h00 ((Classical.em (hp_k M (hp_r M j) = 1)).elim (fun h9 => Or.inr (Classical.byContradiction fun h8 => hwr ⟨h9, h8⟩)) Or.inl) hcd]; decide) ?_
                exact tail () H locs ls (trivial) hP hD hS (lv_sub hl [0, 1, 2, 3] rfl)
          · have h00 : hp_r M j = 0 := (hp_r0 hW hj).mp hc
            refine lv_iconst (v := 2) hx hb dX1_link_30 (by decide) ?_
            refine lv_goto hx hb dX1_link_31 (tgt := 54) (by decide) ?_
            refine hw_topi (y := nI k) (by rw [hp_cd_0 h00 hcd]; decide) ?_
            exact tail () H locs ls (trivial) hP hD hS (lv_sub hl [0, 1, 2, 3] rfl)
        · exact absurd hc hp_10

set_option maxHeartbeats 4000000 in
set_option maxRecDepth 100000 in
theorem c_X1_follow (l : Launch) (dC : Nat → ClassId) (dI : Nat → Nat → Nat) (g0 b1 b2 b3 b4 b5 b6 b7 b8 : Nat) (e1 e2 e3 e4 e5 e6 e7 e8 : ClassId) (th : Int32) (kd zs od lk : Nat → Int32) (nu : Nat → Int64) (rb rg td : Nat → Int32) (ob co tp : Int32) (sz : Nat) (M : hp_S) (hW : hp_W M) (hQ : hp_Q M kd zs od lk nu rg ob co) (r y i : Int32) (k : Nat) (hk : hp_lk M (hp_bad r 16 ∨ hp_bad y 16) (hp_at M y) i (hp_k M (hp_at M y) ≠ 2) k) : Met l yX1_follow wsX1_follow ({ frames := 1, cells := 0, slots := 0, locals := 23 }) (va_Pc [.ref g0, .int r, .int y, .int i] (hw_pre (dC, dI) vwCl [(e1, .int), (e2, .int), (e3, .int), (e4, .int), (e5, .long), (e6, .boolean), (e7, .int), (e8, .int)] [(g0, .inr (1, [.int th, .ref b1, .ref b2, .ref b3, .ref b4, .ref b5, .ref b6, .ref b7, .ref b8, .int ob, .int co, .int tp])), (b1, .inl (e1, 301, .inl kd)), (b2, .inl (e2, 301, .inl zs)), (b3, .inl (e3, 301, .inl od)), (b4, .inl (e4, 12040, .inl lk)), (b5, .inl (e5, 12040, .inr (.inl nu))), (b6, .inl (e6, 301, .inl rb)), (b7, .inl (e7, 16, .inl rg)), (b8, .inl (e8, 301, .inl td))] sz)) (va_Qv (fun u : Int32 × (Nat → Int32) => u.1 = nI k ∧ hp_Q (hp_df M r y i k) kd zs od lk nu u.2 ob co) (fun u t => hw_B (dC, dI) vwCl [(e1, .int), (e2, .int), (e3, .int), (e4, .int), (e5, .long), (e6, .boolean), (e7, .int), (e8, .int)] (va_A [(g0, .inr (1, [.int th, .ref b1, .ref b2, .ref b3, .ref b4, .ref b5, .ref b6, .ref b7, .ref b8, .int ob, .int co, .int tp])), (b1, .inl (e1, 301, .inl kd)), (b2, .inl (e2, 301, .inl zs)), (b3, .inl (e3, 301, .inl od)), (b4, .inl (e4, 12040, .inl lk)), (b5, .inl (e5, 12040, .inr (.inl nu))), (b6, .inl (e6, 301, .inl rb)), (b7, .inl (e7, 16, .inl rg)), (b8, .inl (e8, 301, .inl td))] sz) ((fun u : Int32 × (Nat → Int32) => [(g0, .inr (1, [.int u.1, .ref b1, .ref b2, .ref b3, .ref b4, .ref b5, .ref b6, .ref b7, .ref b8, .int ob, .int co, .int tp])), (b1, .inl (e1, 301, .inl kd)), (b2, .inl (e2, 301, .inl zs)), (b3, .inl (e3, 301, .inl od)), (b4, .inl (e4, 12040, .inl lk)), (b5, .inl (e5, 12040, .inr (.inl nu))), (b6, .inl (e6, 301, .inl rb)), (b7, .inl (e7, 16, .inl u.2)), (b8, .inl (e8, 301, .inl td))]) u) t) (va_A [(g0, .inr (1, [.int th, .ref b1, .ref b2, .ref b3, .ref b4, .ref b5, .ref b6, .ref b7, .ref b8, .int ob, .int co, .int tp])), (b1, .inl (e1, 301, .inl kd)), (b2, .inl (e2, 301, .inl zs)), (b3, .inl (e3, 301, .inl od)), (b4, .inl (e4, 12040, .inl lk)), (b5, .inl (e5, 12040, .inr (.inl nu))), (b6, .inl (e6, 301, .inl rb)), (b7, .inl (e7, 16, .inl rg)), (b8, .inl (e8, 301, .inl td))] sz)) 0 0 (va_A [(g0, .inr (1, [.int th, .ref b1, .ref b2, .ref b3, .ref b4, .ref b5, .ref b6, .ref b7, .ref b8, .int ob, .int co, .int tp])), (b1, .inl (e1, 301, .inl kd)), (b2, .inl (e2, 301, .inl zs)), (b3, .inl (e3, 301, .inl od)), (b4, .inl (e4, 12040, .inl lk)), (b5, .inl (e5, 12040, .inr (.inl nu))), (b6, .inl (e6, 301, .inl rb)), (b7, .inl (e7, 16, .inl rg)), (b8, .inl (e8, 301, .inl td))] sz) := by
  refine Met.ofW (cc := cX1_follow) (maxL := 4) (ret := none) (by decide) rfl ?_
  intro p e s m args below meth c s₁ B hml hv
  obtain ⟨hargs, hsz, hP, hK, hD0⟩ := hv
  have hx := B.exec
  have hb := B.bytes
  have hr := B.returns
  have hts : ∀ w ∈ wb, w.before _ s = true := fun w h => atoms_spec (ws := wsX1_follow) B.pre w (List.mem_cons_of_mem _ h)
  have hown : s.vm.findClass RX1 = some m.cls := findClass_of_methodNamed B.named
  have hlocks := B.notSynchronized
  subst hsz
  have hD := hD0.self (sz := s.heap.size)
  generalize hAe : va_A [(g0, .inr (1, [.int th, .ref b1, .ref b2, .ref b3, .ref b4, .ref b5, .ref b6, .ref b7, .ref b8, .int ob, .int co, .int tp])), (b1, .inl (e1, 301, .inl kd)), (b2, .inl (e2, 301, .inl zs)), (b3, .inl (e3, 301, .inl od)), (b4, .inl (e4, 12040, .inl lk)), (b5, .inl (e5, 12040, .inr (.inl nu))), (b6, .inl (e6, 301, .inl rb)), (b7, .inl (e7, 16, .inl rg)), (b8, .inl (e8, 301, .inl td))] s.heap.size = A at hD ⊢
  have hA : ∀ q : Nat, s.heap.size ≤ q → A q := fun q h => by rw [← hAe]; exact Or.inr h
  have hS : va_S A s.heap s.heap [] := va_S.rf
  generalize hQ9 : MQ below (va_Qv (fun u : Int32 × (Nat → Int32) => u.1 = nI k ∧ hp_Q (hp_df M r y i k) kd zs od lk nu u.2 ob co) (fun u t => hw_B (dC, dI) vwCl [(e1, .int), (e2, .int), (e3, .int), (e4, .int), (e5, .long), (e6, .boolean), (e7, .int), (e8, .int)] A ((fun u : Int32 × (Nat → Int32) => [(g0, .inr (1, [.int u.1, .ref b1, .ref b2, .ref b3, .ref b4, .ref b5, .ref b6, .ref b7, .ref b8, .int ob, .int co, .int tp])), (b1, .inl (e1, 301, .inl kd)), (b2, .inl (e2, 301, .inl zs)), (b3, .inl (e3, 301, .inl od)), (b4, .inl (e4, 12040, .inl lk)), (b5, .inl (e5, 12040, .inr (.inl nu))), (b6, .inl (e6, 301, .inl rb)), (b7, .inl (e7, 16, .inl u.2)), (b8, .inl (e8, 301, .inl td))]) u) t) A) args s 0 0 A = Q9
  have hl := lv_entry ([.ref g0, .int r, .int y, .int i]) (n := 4) (Nat.le_of_ble_eq_true rfl)
  rw [show entryFrame m args 4 = _ from (congrArg (fun z => entryFrame m z 4) hargs).trans (lg_entry_eq m [.ref g0, .int r, .int y, .int i] 4)]
  generalize (lg_sl ([.ref g0, .int r, .int y, .int i]) ++ List.replicate (4 - (lg_sl ([.ref g0, .int r, .int y, .int i])).length) Slot.unset).toArray = ls at hl ⊢
  have hl : lv_has ls 4 [(0, .ref g0), (1, .int r), (2, .int y), (3, .int i)] := hl
  obtain ⟨H, hH⟩ : ∃ H, H = s.heap := ⟨_, rfl⟩
  rw [← hH] at hP
  have hS : va_S A s.heap H [] := by rw [hH]; exact hS
  rw [← hH]
  generalize ([] : List Loc) = locs at hS ⊢
  have hk4 := hp_lk_lt hk
  have tail : ∀ (z9 : Unit) (H : Heap) (locs : List Loc) (ls : Array Slot), (True) → va_P (dC, dI) vwCl [(g0, .inr (1, [.int th, .ref b1, .ref b2, .ref b3, .ref b4, .ref b5, .ref b6, .ref b7, .ref b8, .int ob, .int co, .int tp])), (b1, .inl (e1, 301, .inl kd)), (b2, .inl (e2, 301, .inl zs)), (b3, .inl (e3, 301, .inl od)), (b4, .inl (e4, 12040, .inl lk)), (b5, .inl (e5, 12040, .inr (.inl nu))), (b6, .inl (e6, 301, .inl rb)), (b7, .inl (e7, 16, .inl rg)), (b8, .inl (e8, 301, .inl td))] H → va_D A [(g0, .inr (1, [.int th, .ref b1, .ref b2, .ref b3, .ref b4, .ref b5, .ref b6, .ref b7, .ref b8, .int ob, .int co, .int tp])), (b1, .inl (e1, 301, .inl kd)), (b2, .inl (e2, 301, .inl zs)), (b3, .inl (e3, 301, .inl od)), (b4, .inl (e4, 12040, .inl lk)), (b5, .inl (e5, 12040, .inr (.inl nu))), (b6, .inl (e6, 301, .inl rb)), (b7, .inl (e7, 16, .inl rg)), (b8, .inl (e8, 301, .inl td))] → va_S A s.heap H locs → lv_has ls 4 [(0, .ref g0), (1, .int r), (2, .int y), (3, .int i)] → W p l e (headSpec wsX1_follow ({ frames := 1, cells := 0, slots := 0, locals := 23 })).room s m args below meth c H locs 0 0 Q9 (F0 m 69 ls [.int (nI k), .ref g0]) := by
    intro z9 H locs ls hI hP hD hS hl
    refine va_put (D := (dC, dI)) (ci := 1) (v := .int (nI k)) (ty := .int) (C := RX1) (T := TX1) (N := 12) hx hb hts inX1 tyX1 tyX1_ok nmX1 hown hK hP hD hS 0 rfl rfl 0 (by decide) (hts _ bw_fl_X1_36) (fun _ h9 => h9) rfl (by decide +kernel) rfl rfl (Nat.le_of_ble_eq_true rfl) dX1_follow_69 (fun H locs hP hD hS => ?_)
    have hP : va_P (dC, dI) vwCl [(g0, .inr (1, [.int (nI k), .ref b1, .ref b2, .ref b3, .ref b4, .ref b5, .ref b6, .ref b7, .ref b8, .int ob, .int co, .int tp])), (b1, .inl (e1, 301, .inl kd)), (b2, .inl (e2, 301, .inl zs)), (b3, .inl (e3, 301, .inl od)), (b4, .inl (e4, 12040, .inl lk)), (b5, .inl (e5, 12040, .inr (.inl nu))), (b6, .inl (e6, 301, .inl rb)), (b7, .inl (e7, 16, .inl rg)), (b8, .inl (e8, 301, .inl td))] H := hP
    have hD : va_D A [(g0, .inr (1, [.int (nI k), .ref b1, .ref b2, .ref b3, .ref b4, .ref b5, .ref b6, .ref b7, .ref b8, .int ob, .int co, .int tp])), (b1, .inl (e1, 301, .inl kd)), (b2, .inl (e2, 301, .inl zs)), (b3, .inl (e3, 301, .inl od)), (b4, .inl (e4, 12040, .inl lk)), (b5, .inl (e5, 12040, .inr (.inl nu))), (b6, .inl (e6, 301, .inl rb)), (b7, .inl (e7, 16, .inl rg)), (b8, .inl (e8, 301, .inl td))] := hD
    refine lv_aload_n hx hb dX1_follow_72 rfl (lv_at hl 0 rfl) ?_
    refine va_get (D := (dC, dI)) (ci := 1) (v := .int (nI k)) (C := RX1) (T := TX1) (N := 12) hx hb hts inX1 hown hK hP 0 rfl rfl 0 (by decide) (hts _ bw_fl_X1_36) (fun _ h9 => h9) rfl dX1_follow_73 ?_
    refine lv_if_ne hx hb dX1_follow_76 (tgt := 101) (by decide) (fun hc => ?_) (fun hc => ?_)
    · have hk0 : k ≠ 0 := fun h9 => hc ((hp_k0 hk4).mpr h9)
      subst hQ9
      exact W.vret hx hb hr (fun t ht hWm => ⟨⟨((nI k), rg), rfl, ⟨rfl, by unfold hp_df; rw [if_neg hk0]; exact hQ⟩, by rw [ht]; exact hP, va_K.moved hWm.alike hK, hD⟩, hS.F ht⟩) hS.2.2 dX1_follow_101
    · have hk0 : k = 0 := (hp_k0 hk4).mp hc
      obtain ⟨hnb, h00, hok, hbi⟩ := hp_lk_0 hk hk0
      obtain ⟨r1, hr1, hRr⟩ := hp_ok' (fun h9 => hnb (Or.inl h9))
      obtain ⟨j, hj, hRj⟩ := hp_ok' (fun h9 => hnb (Or.inr h9))
      rw [hp_atE hRj hj] at h00 hok hbi
      have hoL := (hW.2.2.2.1 j hj).resolve_left h00
      have hw9 := hW.2.1 _ hoL
      obtain ⟨q, hq, hiq⟩ := hp_ok hbi (by omega)
      refine lv_aload_n hx hb dX1_follow_79 rfl (lv_at hl 0 rfl) ?_
      refine va_get (D := (dC, dI)) (ci := 1) (v := .ref b7) (C := RX1) (T := TX1) (N := 12) hx hb hts inX1 hown hK hP 0 rfl rfl 7 (by decide) (hts _ bw_fl_X1_30) (fun _ h9 => h9) rfl dX1_follow_80 ?_
      refine lv_iload_n hx hb dX1_follow_83 rfl (lv_at hl 1 rfl) ?_
      refine lv_aload_n hx hb dX1_follow_84 rfl (lv_at hl 0 rfl) ?_
      refine va_get (D := (dC, dI)) (ci := 1) (v := .ref b4) (C := RX1) (T := TX1) (N := 12) hx hb hts inX1 hown hK hP 0 rfl rfl 4 (by decide) (hts _ bw_fl_X1_19) (fun _ h9 => h9) rfl dX1_follow_85 ?_
      refine lv_bipush (v := 40) hx hb dX1_follow_88 (by decide) ?_
      refine lv_aload_n hx hb dX1_follow_90 rfl (lv_at hl 0 rfl) ?_
      refine va_get (D := (dC, dI)) (ci := 1) (v := .ref b7) (C := RX1) (T := TX1) (N := 12) hx hb hts inX1 hown hK hP 0 rfl rfl 7 (by decide) (hts _ bw_fl_X1_30) (fun _ h9 => h9) rfl dX1_follow_91 ?_
      refine lv_iload_n hx hb dX1_follow_94 rfl (lv_at hl 2 rfl) ?_
      refine hw_iald (j := j) hx hb hK hP 7 6 rfl rfl (hRj) (hj) (by decide) dX1_follow_95 ?_
      refine hw_topi (y := nI (hp_r M j)) (hQ.2.2.1 j hj) ?_
      refine lv_imul hx hb dX1_follow_96 ?_
      refine lv_iload_n hx hb dX1_follow_97 rfl (lv_at hl 3 rfl) ?_
      refine lv_iadd hx hb dX1_follow_98 ?_
      refine hw_iald (j := 40 * hp_r M j + q) hx hb hK hP 4 3 rfl rfl (by rw [hiq]; exact hp_40i _ _) (by omega) (by decide) dX1_follow_99 ?_
      refine hw_topi (y := nI (hp_l M (hp_r M j) q)) ((hQ.2.2.2.2.2 _ hoL).2.1 hok q hq) ?_
      refine hw_iast (j := r1) hx hb hK hP hD hS 7 6 rfl rfl (hRr) (hr1) (by decide) dX1_follow_100 (fun H locs hP hD hS => ?_)
      have hP : va_P (dC, dI) vwCl [(g0, .inr (1, [.int (nI k), .ref b1, .ref b2, .ref b3, .ref b4, .ref b5, .ref b6, .ref b7, .ref b8, .int ob, .int co, .int tp])), (b1, .inl (e1, 301, .inl kd)), (b2, .inl (e2, 301, .inl zs)), (b3, .inl (e3, 301, .inl od)), (b4, .inl (e4, 12040, .inl lk)), (b5, .inl (e5, 12040, .inr (.inl nu))), (b6, .inl (e6, 301, .inl rb)), (b7, .inl (e7, 16, .inl (upd rg r1 (nI (hp_l M (hp_r M j) q))))), (b8, .inl (e8, 301, .inl td))] H := hP
      have hD : va_D A [(g0, .inr (1, [.int (nI k), .ref b1, .ref b2, .ref b3, .ref b4, .ref b5, .ref b6, .ref b7, .ref b8, .int ob, .int co, .int tp])), (b1, .inl (e1, 301, .inl kd)), (b2, .inl (e2, 301, .inl zs)), (b3, .inl (e3, 301, .inl od)), (b4, .inl (e4, 12040, .inl lk)), (b5, .inl (e5, 12040, .inr (.inl nu))), (b6, .inl (e6, 301, .inl rb)), (b7, .inl (e7, 16, .inl (upd rg r1 (nI (hp_l M (hp_r M j) q))))), (b8, .inl (e8, 301, .inl td))] := hD
      subst hQ9
      exact W.vret hx hb hr (fun t ht hWm => ⟨⟨((nI k), (upd rg r1 (nI (hp_l M (hp_r M j) q)))), rfl, ⟨rfl, by unfold hp_df; rw [if_pos hk0, hp_atE hRj hj, hp_cl hiq hq hw9.2.2.2.2.1, hRr, nI_clamp (by omega)]; exact hp_sr_Q hQ r1 _⟩, by rw [ht]; exact hP, va_K.moved hWm.alike hK, hD⟩, hS.F ht⟩) hS.2.2 dX1_follow_101
  refine lv_aload_n hx hb dX1_follow_0 rfl (lv_at hl 0 rfl) ?_
  refine lv_aload_n hx hb dX1_follow_1 rfl (lv_at hl 0 rfl) ?_
  refine lv_iload_n hx hb dX1_follow_2 rfl (lv_at hl 1 rfl) ?_
  by_cases hr1 : hp_bad r 16
  · skip
    refine W.callR (W.runV (As := [.int r]) (rest := [.ref g0]) ⟨hx, hb, hml, hown, hts⟩ (c0_X1_isRegister l dC dI g0 b1 b2 b3 b4 b5 b6 b7 b8 e1 e2 e3 e4 e5 e6 e7 e8 th kd zs od lk nu rb rg td ob co tp _ hr1) (cwV 1 hts gw_X1_64 rfl rfl rfl ⟨rfl, by decide, by decide, by decide +kernel⟩ ⟨Nat.le_of_ble_eq_true rfl, Nat.le_of_ble_eq_true rfl⟩) ⟨hw_blind, va_recv (q0 := 0) (ci := 1) (q := (RX1, TX1, 12)) hK hP rfl rfl, hw_pay hP hK hD⟩ rfl rfl hl.1 rfl (lv_room (Nat.le_of_ble_eq_true rfl)) dX1_follow_3 ⟨by decide, by decide⟩) ?_
    refine W.eq (g2 := F0 m 6 ls [.int 0, .ref g0]) rfl ?_
    refine lv_if_eq hx hb dX1_follow_6 (tgt := 17) (by decide) (fun hc => ?_) (fun hc => ?_)
    · skip
      refine lv_iconst (v := 1) hx hb dX1_follow_17 (by decide) ?_
      refine lv_goto hx hb dX1_follow_18 (tgt := 69) (by decide) ?_
      refine hw_topi (y := nI k) (by rw [hp_lk_y hk (Or.inl hr1)]; decide) ?_
      exact tail () H locs ls (trivial) hP hD hS (lv_sub hl [0, 1, 2, 3] rfl)
    · exact absurd rfl hc
  · skip
    refine W.callR (W.runV (As := [.int r]) (rest := [.ref g0]) ⟨hx, hb, hml, hown, hts⟩ (c1_X1_isRegister l dC dI g0 b1 b2 b3 b4 b5 b6 b7 b8 e1 e2 e3 e4 e5 e6 e7 e8 th kd zs od lk nu rb rg td ob co tp _ hr1) (cwV 1 hts gw_X1_64 rfl rfl rfl ⟨rfl, by decide, by decide, by decide +kernel⟩ ⟨Nat.le_of_ble_eq_true rfl, Nat.le_of_ble_eq_true rfl⟩) ⟨hw_blind, va_recv (q0 := 0) (ci := 1) (q := (RX1, TX1, 12)) hK hP rfl rfl, hw_pay hP hK hD⟩ rfl rfl hl.1 rfl (lv_room (Nat.le_of_ble_eq_true rfl)) dX1_follow_3 ⟨by decide, by decide⟩) ?_
    refine W.eq (g2 := F0 m 6 ls [.int 1, .ref g0]) rfl ?_
    refine lv_if_eq hx hb dX1_follow_6 (tgt := 17) (by decide) (fun hc => ?_) (fun hc => ?_)
    · exact absurd hc hp_10
    · skip
      refine lv_aload_n hx hb dX1_follow_9 rfl (lv_at hl 0 rfl) ?_
      refine lv_iload_n hx hb dX1_follow_10 rfl (lv_at hl 2 rfl) ?_
      by_cases hy1 : hp_bad y 16
      · skip
        refine W.callR (W.runV (As := [.int y]) (rest := [.ref g0]) ⟨hx, hb, hml, hown, hts⟩ (c0_X1_isRegister l dC dI g0 b1 b2 b3 b4 b5 b6 b7 b8 e1 e2 e3 e4 e5 e6 e7 e8 th kd zs od lk nu rb rg td ob co tp _ hy1) (cwV 1 hts gw_X1_64 rfl rfl rfl ⟨rfl, by decide, by decide, by decide +kernel⟩ ⟨Nat.le_of_ble_eq_true rfl, Nat.le_of_ble_eq_true rfl⟩) ⟨hw_blind, va_recv (q0 := 0) (ci := 1) (q := (RX1, TX1, 12)) hK hP rfl rfl, hw_pay hP hK hD⟩ rfl rfl hl.1 rfl (lv_room (Nat.le_of_ble_eq_true rfl)) dX1_follow_11 ⟨by decide, by decide⟩) ?_
        refine W.eq (g2 := F0 m 14 ls [.int 0, .ref g0]) rfl ?_
        refine lv_if_ne hx hb dX1_follow_14 (tgt := 21) (by decide) (fun hc => ?_) (fun hc => ?_)
        · exact absurd rfl hc
        · skip
          refine lv_iconst (v := 1) hx hb dX1_follow_17 (by decide) ?_
          refine lv_goto hx hb dX1_follow_18 (tgt := 69) (by decide) ?_
          refine hw_topi (y := nI k) (by rw [hp_lk_y hk (Or.inr hy1)]; decide) ?_
          exact tail () H locs ls (trivial) hP hD hS (lv_sub hl [0, 1, 2, 3] rfl)
      · skip
        refine W.callR (W.runV (As := [.int y]) (rest := [.ref g0]) ⟨hx, hb, hml, hown, hts⟩ (c1_X1_isRegister l dC dI g0 b1 b2 b3 b4 b5 b6 b7 b8 e1 e2 e3 e4 e5 e6 e7 e8 th kd zs od lk nu rb rg td ob co tp _ hy1) (cwV 1 hts gw_X1_64 rfl rfl rfl ⟨rfl, by decide, by decide, by decide +kernel⟩ ⟨Nat.le_of_ble_eq_true rfl, Nat.le_of_ble_eq_true rfl⟩) ⟨hw_blind, va_recv (q0 := 0) (ci := 1) (q := (RX1, TX1, 12)) hK hP rfl rfl, hw_pay hP hK hD⟩ rfl rfl hl.1 rfl (lv_room (Nat.le_of_ble_eq_true rfl)) dX1_follow_11 ⟨by decide, by decide⟩) ?_
        refine W.eq (g2 := F0 m 14 ls [.int 1, .ref g0]) rfl ?_
        refine lv_if_ne hx hb dX1_follow_14 (tgt := 21) (by decide) (fun hc => ?_) (fun hc => ?_)
        · skip
          have hnb : ¬ (hp_bad r 16 ∨ hp_bad y 16) := fun h9 => h9.elim hr1 hy1
          have hcd := hp_lk_n hk hnb
          obtain ⟨j, hj, hRj⟩ := hp_ok' hy1
          rw [hp_atE hRj hj] at hcd
          refine lv_aload_n hx hb dX1_follow_21 rfl (lv_at hl 0 rfl) ?_
          refine va_get (D := (dC, dI)) (ci := 1) (v := .ref b7) (C := RX1) (T := TX1) (N := 12) hx hb hts inX1 hown hK hP 0 rfl rfl 7 (by decide) (hts _ bw_fl_X1_30) (fun _ h9 => h9) rfl dX1_follow_22 ?_
          refine lv_iload_n hx hb dX1_follow_25 rfl (lv_at hl 2 rfl) ?_
          refine hw_iald (j := j) hx hb hK hP 7 6 rfl rfl (hRj) (hj) (by decide) dX1_follow_26 ?_
          refine hw_topi (y := nI (hp_r M j)) (hQ.2.2.1 j hj) ?_
          refine lv_if_ne hx hb dX1_follow_27 (tgt := 34) (by decide) (fun hc => ?_) (fun hc => ?_)
          · have h00 : hp_r M j ≠ 0 := fun h9 => hc ((hp_r0 hW hj).mpr h9)
            have hoL := (hW.2.2.2.1 j hj).resolve_left h00
            have hw9 := hW.2.1 _ hoL
            refine lv_aload_n hx hb dX1_follow_34 rfl (lv_at hl 0 rfl) ?_
            refine lv_aload_n hx hb dX1_follow_35 rfl (lv_at hl 0 rfl) ?_
            refine va_get (D := (dC, dI)) (ci := 1) (v := .ref b7) (C := RX1) (T := TX1) (N := 12) hx hb hts inX1 hown hK hP 0 rfl rfl 7 (by decide) (hts _ bw_fl_X1_30) (fun _ h9 => h9) rfl dX1_follow_36 ?_
            refine lv_iload_n hx hb dX1_follow_39 rfl (lv_at hl 2 rfl) ?_
            refine hw_iald (j := j) hx hb hK hP 7 6 rfl rfl (hRj) (hj) (by decide) dX1_follow_40 ?_
            refine hw_topi (y := nI (hp_r M j)) (hQ.2.2.1 j hj) ?_
            refine lv_iconst (v := 1) hx hb dX1_follow_41 (by decide) ?_
            refine lv_iload_n hx hb dX1_follow_42 rfl (lv_at hl 3 rfl) ?_
            refine W.eq (g2 := F0 m 43 ls [.int i, .int (nI 1), .int (nI (hp_r M j)), .ref g0, .ref g0]) rfl ?_
            by_cases hwr : (hp_k M (hp_r M j) = 1 ∧ ¬ hp_bad i (hp_z M (hp_r M j)))
            · skip
              refine W.callR (W.runV (As := [.int (nI (hp_r M j)), .int (nI 1), .int i]) (rest := [.ref g0]) ⟨hx, hb, hml, hown, hts⟩ (c0_X1_isWrong l dC dI g0 b1 b2 b3 b4 b5 b6 b7 b8 e1 e2 e3 e4 e5 e6 e7 e8 th kd zs od lk nu rb rg td ob co tp _ M hW hQ (hp_r M j) 1 i hoL (by decide) hwr) (cwV 3 hts gw_X1_75 rfl rfl rfl ⟨rfl, by decide, by decide, by decide +kernel⟩ ⟨Nat.le_of_ble_eq_true rfl, Nat.le_of_ble_eq_true rfl⟩) ⟨hw_blind, va_recv (q0 := 0) (ci := 1) (q := (RX1, TX1, 12)) hK hP rfl rfl, hw_pay hP hK hD⟩ rfl rfl hl.1 rfl (lv_room (Nat.le_of_ble_eq_true rfl)) dX1_follow_43 ⟨by decide, by decide⟩) ?_
              refine W.eq (g2 := F0 m 46 ls [.int 0, .ref g0]) rfl ?_
              refine lv_if_eq hx hb dX1_follow_46 (tgt := 68) (by decide) (fun hc => ?_) (fun hc => ?_)
              · skip
                refine lv_iconst (v := 0) hx hb dX1_follow_68 (by decide) ?_
                refine hw_topi (y := nI k) (by rw [hp_cd_ok h00 (by omega) hwr.2 hcd]; decide) ?_
                exact tail () H locs ls (trivial) hP hD hS (lv_sub hl [0, 1, 2, 3] rfl)
              · exact absurd rfl hc
            · skip
              refine W.callR (W.runV (As := [.int (nI (hp_r M j)), .int (nI 1), .int i]) (rest := [.ref g0]) ⟨hx, hb, hml, hown, hts⟩ (c1_X1_isWrong l dC dI g0 b1 b2 b3 b4 b5 b6 b7 b8 e1 e2 e3 e4 e5 e6 e7 e8 th kd zs od lk nu rb rg td ob co tp _ M hW hQ (hp_r M j) 1 i hoL (by decide) hwr) (cwV 3 hts gw_X1_75 rfl rfl rfl ⟨rfl, by decide, by decide, by decide +kernel⟩ ⟨Nat.le_of_ble_eq_true rfl, Nat.le_of_ble_eq_true rfl⟩) ⟨hw_blind, va_recv (q0 := 0) (ci := 1) (q := (RX1, TX1, 12)) hK hP rfl rfl, hw_pay hP hK hD⟩ rfl rfl hl.1 rfl (lv_room (Nat.le_of_ble_eq_true rfl)) dX1_follow_43 ⟨by decide, by decide⟩) ?_
              refine W.eq (g2 := F0 m 46 ls [.int 1, .ref g0]) rfl ?_
              refine lv_if_eq hx hb dX1_follow_46 (tgt := 68) (by decide) (fun hc => ?_) (fun hc => ?_)
              · exact absurd hc hp_10
              · skip
                refine lv_aload_n hx hb dX1_follow_49 rfl (lv_at hl 0 rfl) ?_
                refine lv_aload_n hx hb dX1_follow_50 rfl (lv_at hl 0 rfl) ?_
                refine va_get (D := (dC, dI)) (ci := 1) (v := .ref b7) (C := RX1) (T := TX1) (N := 12) hx hb hts inX1 hown hK hP 0 rfl rfl 7 (by decide) (hts _ bw_fl_X1_30) (fun _ h9 => h9) rfl dX1_follow_51 ?_
                refine lv_iload_n hx hb dX1_follow_54 rfl (lv_at hl 2 rfl) ?_
                refine hw_iald (j := j) hx hb hK hP 7 6 rfl rfl (hRj) (hj) (by decide) dX1_follow_55 ?_
                refine hw_topi (y := nI (hp_r M j)) (hQ.2.2.1 j hj) ?_
                refine lv_iconst (v := 3) hx hb dX1_follow_56 (by decide) ?_
                refine lv_iload_n hx hb dX1_follow_57 rfl (lv_at hl 3 rfl) ?_
                refine W.eq (g2 := F0 m 58 ls [.int i, .int (nI 3), .int (nI (hp_r M j)), .ref g0, .ref g0]) rfl ?_
                by_cases hwr3 : (hp_k M (hp_r M j) = 3 ∧ ¬ hp_bad i (hp_z M (hp_r M j)))
                · skip
                  refine W.callR (W.runV (As := [.int (nI (hp_r M j)), .int (nI 3), .int i]) (rest := [.ref g0]) ⟨hx, hb, hml, hown, hts⟩ (c0_X1_isWrong l dC dI g0 b1 b2 b3 b4 b5 b6 b7 b8 e1 e2 e3 e4 e5 e6 e7 e8 th kd zs od lk nu rb rg td ob co tp _ M hW hQ (hp_r M j) 3 i hoL (by decide) hwr3) (cwV 3 hts gw_X1_75 rfl rfl rfl ⟨rfl, by decide, by decide, by decide +kernel⟩ ⟨Nat.le_of_ble_eq_true rfl, Nat.le_of_ble_eq_true rfl⟩) ⟨hw_blind, va_recv (q0 := 0) (ci := 1) (q := (RX1, TX1, 12)) hK hP rfl rfl, hw_pay hP hK hD⟩ rfl rfl hl.1 rfl (lv_room (Nat.le_of_ble_eq_true rfl)) dX1_follow_58 ⟨by decide, by decide⟩) ?_
                  refine W.eq (g2 := F0 m 61 ls [.int 0, .ref g0]) rfl ?_
                  refine lv_if_eq hx hb dX1_follow_61 (tgt := 68) (by decide) (fun hc => ?_) (fun hc => ?_)
                  · skip
                    refine lv_iconst (v := 0) hx hb dX1_follow_68 (by decide) ?_
                    refine hw_topi (y := nI k) (by rw [hp_cd_ok h00 (by omega) hwr3.2 hcd]; decide) ?_
                    exact tail () H locs ls (trivial) hP hD hS (lv_sub hl [0, 1, 2, 3] rfl)
                  · exact absurd rfl hc
                · skip
                  refine W.callR (W.runV (As := [.int (nI (hp_r M j)), .int (nI 3), .int i]) (rest := [.ref g0]) ⟨hx, hb, hml, hown, hts⟩ (c1_X1_isWrong l dC dI g0 b1 b2 b3 b4 b5 b6 b7 b8 e1 e2 e3 e4 e5 e6 e7 e8 th kd zs od lk nu rb rg td ob co tp _ M hW hQ (hp_r M j) 3 i hoL (by decide) hwr3) (cwV 3 hts gw_X1_75 rfl rfl rfl ⟨rfl, by decide, by decide, by decide +kernel⟩ ⟨Nat.le_of_ble_eq_true rfl, Nat.le_of_ble_eq_true rfl⟩) ⟨hw_blind, va_recv (q0 := 0) (ci := 1) (q := (RX1, TX1, 12)) hK hP rfl rfl, hw_pay hP hK hD⟩ rfl rfl hl.1 rfl (lv_room (Nat.le_of_ble_eq_true rfl)) dX1_follow_58 ⟨by decide, by decide⟩) ?_
                  refine W.eq (g2 := F0 m 61 ls [.int 1, .ref g0]) rfl ?_
                  refine lv_if_eq hx hb dX1_follow_61 (tgt := 68) (by decide) (fun hc => ?_) (fun hc => ?_)
                  · exact absurd hc hp_10
                  · skip
                    refine lv_iconst (v := 1) hx hb dX1_follow_64 (by decide) ?_
                    refine lv_goto hx hb dX1_follow_65 (tgt := 69) (by decide) ?_
                    refine hw_topi (y := nI k) (by rw [hp_cd_1 h00 ((Classical.em (hp_bad i (hp_z M (hp_r M j)))).elim Or.inr (fun h9 => Or.inl (fun h8 => by
                        have h7 : hp_k M (hp_r M j) = 1 ∨ hp_k M (hp_r M j) = 3 := by omega
                        exact h7.elim (fun h6 => hwr ⟨h6, h9⟩) (fun h6 => hwr3 ⟨h6, h9⟩)))) hcd]; decide) ?_
                    exact tail () H locs ls (trivial) hP hD hS (lv_sub hl [0, 1, 2, 3] rfl)
          · have h00 : hp_r M j = 0 := (hp_r0 hW hj).mp hc
            refine lv_iconst (v := 2) hx hb dX1_follow_30 (by decide) ?_
            refine lv_goto hx hb dX1_follow_31 (tgt := 69) (by decide) ?_
            refine hw_topi (y := nI k) (by rw [hp_cd_0 h00 hcd]; decide) ?_
            exact tail () H locs ls (trivial) hP hD hS (lv_sub hl [0, 1, 2, 3] rfl)
        · exact absurd hc hp_10

set_option maxHeartbeats 4000000 in
set_option maxRecDepth 100000 in
theorem c_X1_fails (l : Launch) (dC : Nat → ClassId) (dI : Nat → Nat → Nat) (g0 b1 b2 b3 b4 b5 b6 b7 b8 : Nat) (e1 e2 e3 e4 e5 e6 e7 e8 : ClassId) (th : Int32) (kd zs od lk : Nat → Int32) (nu : Nat → Int64) (rb rg td : Nat → Int32) (ob co tp : Int32) (sz : Nat) (M : hp_S) (hW : hp_W M) (hQ : hp_Q M kd zs od lk nu rg ob co) (r i : Int32) (k : Nat) (hk : hp_lk M (hp_bad r 16) (hp_at M r) i (hp_k M (hp_at M r) = 2) k) : Met l yX1_fails wsX1_fails ({ frames := 1, cells := 0, slots := 0, locals := 23 }) (va_Pc [.ref g0, .int r, .int i] (hw_pre (dC, dI) vwCl [(e1, .int), (e2, .int), (e3, .int), (e4, .int), (e5, .long), (e6, .boolean), (e7, .int), (e8, .int)] [(g0, .inr (1, [.int th, .ref b1, .ref b2, .ref b3, .ref b4, .ref b5, .ref b6, .ref b7, .ref b8, .int ob, .int co, .int tp])), (b1, .inl (e1, 301, .inl kd)), (b2, .inl (e2, 301, .inl zs)), (b3, .inl (e3, 301, .inl od)), (b4, .inl (e4, 12040, .inl lk)), (b5, .inl (e5, 12040, .inr (.inl nu))), (b6, .inl (e6, 301, .inl rb)), (b7, .inl (e7, 16, .inl rg)), (b8, .inl (e8, 301, .inl td))] sz)) (va_Qi (fun (x : Int32) (u : Int32) => x = (if k = 0 then 0 else 1) ∧ u = nI k) (fun u t => hw_B (dC, dI) vwCl [(e1, .int), (e2, .int), (e3, .int), (e4, .int), (e5, .long), (e6, .boolean), (e7, .int), (e8, .int)] (va_A [(g0, .inr (1, [.int th, .ref b1, .ref b2, .ref b3, .ref b4, .ref b5, .ref b6, .ref b7, .ref b8, .int ob, .int co, .int tp])), (b1, .inl (e1, 301, .inl kd)), (b2, .inl (e2, 301, .inl zs)), (b3, .inl (e3, 301, .inl od)), (b4, .inl (e4, 12040, .inl lk)), (b5, .inl (e5, 12040, .inr (.inl nu))), (b6, .inl (e6, 301, .inl rb)), (b7, .inl (e7, 16, .inl rg)), (b8, .inl (e8, 301, .inl td))] sz) ((fun u : Int32 => [(g0, .inr (1, [.int u, .ref b1, .ref b2, .ref b3, .ref b4, .ref b5, .ref b6, .ref b7, .ref b8, .int ob, .int co, .int tp])), (b1, .inl (e1, 301, .inl kd)), (b2, .inl (e2, 301, .inl zs)), (b3, .inl (e3, 301, .inl od)), (b4, .inl (e4, 12040, .inl lk)), (b5, .inl (e5, 12040, .inr (.inl nu))), (b6, .inl (e6, 301, .inl rb)), (b7, .inl (e7, 16, .inl rg)), (b8, .inl (e8, 301, .inl td))]) u) t) (va_A [(g0, .inr (1, [.int th, .ref b1, .ref b2, .ref b3, .ref b4, .ref b5, .ref b6, .ref b7, .ref b8, .int ob, .int co, .int tp])), (b1, .inl (e1, 301, .inl kd)), (b2, .inl (e2, 301, .inl zs)), (b3, .inl (e3, 301, .inl od)), (b4, .inl (e4, 12040, .inl lk)), (b5, .inl (e5, 12040, .inr (.inl nu))), (b6, .inl (e6, 301, .inl rb)), (b7, .inl (e7, 16, .inl rg)), (b8, .inl (e8, 301, .inl td))] sz)) 0 0 (va_A [(g0, .inr (1, [.int th, .ref b1, .ref b2, .ref b3, .ref b4, .ref b5, .ref b6, .ref b7, .ref b8, .int ob, .int co, .int tp])), (b1, .inl (e1, 301, .inl kd)), (b2, .inl (e2, 301, .inl zs)), (b3, .inl (e3, 301, .inl od)), (b4, .inl (e4, 12040, .inl lk)), (b5, .inl (e5, 12040, .inr (.inl nu))), (b6, .inl (e6, 301, .inl rb)), (b7, .inl (e7, 16, .inl rg)), (b8, .inl (e8, 301, .inl td))] sz) := by
  refine Met.ofW (cc := cX1_fails) (maxL := 3) (ret := some .boolean) (by decide) rfl ?_
  intro p e s m args below meth c s₁ B hml hv
  obtain ⟨hargs, hsz, hP, hK, hD0⟩ := hv
  have hx := B.exec
  have hb := B.bytes
  have hr := B.returns
  have hts : ∀ w ∈ wb, w.before _ s = true := fun w h => atoms_spec (ws := wsX1_fails) B.pre w (List.mem_cons_of_mem _ h)
  have hown : s.vm.findClass RX1 = some m.cls := findClass_of_methodNamed B.named
  have hlocks := B.notSynchronized
  subst hsz
  have hD := hD0.self (sz := s.heap.size)
  generalize hAe : va_A [(g0, .inr (1, [.int th, .ref b1, .ref b2, .ref b3, .ref b4, .ref b5, .ref b6, .ref b7, .ref b8, .int ob, .int co, .int tp])), (b1, .inl (e1, 301, .inl kd)), (b2, .inl (e2, 301, .inl zs)), (b3, .inl (e3, 301, .inl od)), (b4, .inl (e4, 12040, .inl lk)), (b5, .inl (e5, 12040, .inr (.inl nu))), (b6, .inl (e6, 301, .inl rb)), (b7, .inl (e7, 16, .inl rg)), (b8, .inl (e8, 301, .inl td))] s.heap.size = A at hD ⊢
  have hA : ∀ q : Nat, s.heap.size ≤ q → A q := fun q h => by rw [← hAe]; exact Or.inr h
  have hS : va_S A s.heap s.heap [] := va_S.rf
  generalize hQ9 : MQ below (va_Qi (fun (x : Int32) (u : Int32) => x = (if k = 0 then 0 else 1) ∧ u = nI k) (fun u t => hw_B (dC, dI) vwCl [(e1, .int), (e2, .int), (e3, .int), (e4, .int), (e5, .long), (e6, .boolean), (e7, .int), (e8, .int)] A ((fun u : Int32 => [(g0, .inr (1, [.int u, .ref b1, .ref b2, .ref b3, .ref b4, .ref b5, .ref b6, .ref b7, .ref b8, .int ob, .int co, .int tp])), (b1, .inl (e1, 301, .inl kd)), (b2, .inl (e2, 301, .inl zs)), (b3, .inl (e3, 301, .inl od)), (b4, .inl (e4, 12040, .inl lk)), (b5, .inl (e5, 12040, .inr (.inl nu))), (b6, .inl (e6, 301, .inl rb)), (b7, .inl (e7, 16, .inl rg)), (b8, .inl (e8, 301, .inl td))]) u) t) A) args s 0 0 A = Q9
  have hl := lv_entry ([.ref g0, .int r, .int i]) (n := 3) (Nat.le_of_ble_eq_true rfl)
  rw [show entryFrame m args 3 = _ from (congrArg (fun z => entryFrame m z 3) hargs).trans (lg_entry_eq m [.ref g0, .int r, .int i] 3)]
  generalize (lg_sl ([.ref g0, .int r, .int i]) ++ List.replicate (3 - (lg_sl ([.ref g0, .int r, .int i])).length) Slot.unset).toArray = ls at hl ⊢
  have hl : lv_has ls 3 [(0, .ref g0), (1, .int r), (2, .int i)] := hl
  obtain ⟨H, hH⟩ : ∃ H, H = s.heap := ⟨_, rfl⟩
  rw [← hH] at hP
  have hS : va_S A s.heap H [] := by rw [hH]; exact hS
  rw [← hH]
  generalize ([] : List Loc) = locs at hS ⊢
  have hk4 := hp_lk_lt hk
  have tail : ∀ (z9 : Unit) (H : Heap) (locs : List Loc) (ls : Array Slot), (True) → va_P (dC, dI) vwCl [(g0, .inr (1, [.int th, .ref b1, .ref b2, .ref b3, .ref b4, .ref b5, .ref b6, .ref b7, .ref b8, .int ob, .int co, .int tp])), (b1, .inl (e1, 301, .inl kd)), (b2, .inl (e2, 301, .inl zs)), (b3, .inl (e3, 301, .inl od)), (b4, .inl (e4, 12040, .inl lk)), (b5, .inl (e5, 12040, .inr (.inl nu))), (b6, .inl (e6, 301, .inl rb)), (b7, .inl (e7, 16, .inl rg)), (b8, .inl (e8, 301, .inl td))] H → va_D A [(g0, .inr (1, [.int th, .ref b1, .ref b2, .ref b3, .ref b4, .ref b5, .ref b6, .ref b7, .ref b8, .int ob, .int co, .int tp])), (b1, .inl (e1, 301, .inl kd)), (b2, .inl (e2, 301, .inl zs)), (b3, .inl (e3, 301, .inl od)), (b4, .inl (e4, 12040, .inl lk)), (b5, .inl (e5, 12040, .inr (.inl nu))), (b6, .inl (e6, 301, .inl rb)), (b7, .inl (e7, 16, .inl rg)), (b8, .inl (e8, 301, .inl td))] → va_S A s.heap H locs → lv_has ls 3 [(0, .ref g0), (1, .int r), (2, .int i)] → W p l e (headSpec wsX1_fails ({ frames := 1, cells := 0, slots := 0, locals := 23 })).room s m args below meth c H locs 0 0 Q9 (F0 m 46 ls [.int (nI k), .ref g0]) := by
    intro z9 H locs ls hI hP hD hS hl
    refine va_put (D := (dC, dI)) (ci := 1) (v := .int (nI k)) (ty := .int) (C := RX1) (T := TX1) (N := 12) hx hb hts inX1 tyX1 tyX1_ok nmX1 hown hK hP hD hS 0 rfl rfl 0 (by decide) (hts _ bw_fl_X1_36) (fun _ h9 => h9) rfl (by decide +kernel) rfl rfl (Nat.le_of_ble_eq_true rfl) dX1_fails_46 (fun H locs hP hD hS => ?_)
    have hP : va_P (dC, dI) vwCl [(g0, .inr (1, [.int (nI k), .ref b1, .ref b2, .ref b3, .ref b4, .ref b5, .ref b6, .ref b7, .ref b8, .int ob, .int co, .int tp])), (b1, .inl (e1, 301, .inl kd)), (b2, .inl (e2, 301, .inl zs)), (b3, .inl (e3, 301, .inl od)), (b4, .inl (e4, 12040, .inl lk)), (b5, .inl (e5, 12040, .inr (.inl nu))), (b6, .inl (e6, 301, .inl rb)), (b7, .inl (e7, 16, .inl rg)), (b8, .inl (e8, 301, .inl td))] H := hP
    have hD : va_D A [(g0, .inr (1, [.int (nI k), .ref b1, .ref b2, .ref b3, .ref b4, .ref b5, .ref b6, .ref b7, .ref b8, .int ob, .int co, .int tp])), (b1, .inl (e1, 301, .inl kd)), (b2, .inl (e2, 301, .inl zs)), (b3, .inl (e3, 301, .inl od)), (b4, .inl (e4, 12040, .inl lk)), (b5, .inl (e5, 12040, .inr (.inl nu))), (b6, .inl (e6, 301, .inl rb)), (b7, .inl (e7, 16, .inl rg)), (b8, .inl (e8, 301, .inl td))] := hD
    refine lv_aload_n hx hb dX1_fails_49 rfl (lv_at hl 0 rfl) ?_
    refine va_get (D := (dC, dI)) (ci := 1) (v := .int (nI k)) (C := RX1) (T := TX1) (N := 12) hx hb hts inX1 hown hK hP 0 rfl rfl 0 (by decide) (hts _ bw_fl_X1_36) (fun _ h9 => h9) rfl dX1_fails_50 ?_
    refine lv_if_eq hx hb dX1_fails_53 (tgt := 60) (by decide) (fun hc => ?_) (fun hc => ?_)
    · have hk0 : k = 0 := (hp_k0 hk4).mp hc
      refine lv_iconst (v := 0) hx hb dX1_fails_60 (by decide) ?_
      subst hQ9
      exact W.zret (v := 0) hx hb hr rfl (fun t ht hWm => ⟨⟨0, (nI k), rfl, ⟨by rw [if_pos hk0], rfl⟩, by rw [ht]; exact hP, va_K.moved hWm.alike hK, hD⟩, hS.F ht⟩) hS.2.2 dX1_fails_61
    · have hk0 : k ≠ 0 := fun h9 => hc ((hp_k0 hk4).mpr h9)
      refine lv_iconst (v := 1) hx hb dX1_fails_56 (by decide) ?_
      refine lv_goto hx hb dX1_fails_57 (tgt := 61) (by decide) ?_
      subst hQ9
      exact W.zret (v := 1) hx hb hr rfl (fun t ht hWm => ⟨⟨1, (nI k), rfl, ⟨by rw [if_neg hk0], rfl⟩, by rw [ht]; exact hP, va_K.moved hWm.alike hK, hD⟩, hS.F ht⟩) hS.2.2 dX1_fails_61
  refine lv_aload_n hx hb dX1_fails_0 rfl (lv_at hl 0 rfl) ?_
  refine lv_aload_n hx hb dX1_fails_1 rfl (lv_at hl 0 rfl) ?_
  refine lv_iload_n hx hb dX1_fails_2 rfl (lv_at hl 1 rfl) ?_
  by_cases hr1 : hp_bad r 16
  · skip
    refine W.callR (W.runV (As := [.int r]) (rest := [.ref g0]) ⟨hx, hb, hml, hown, hts⟩ (c0_X1_isRegister l dC dI g0 b1 b2 b3 b4 b5 b6 b7 b8 e1 e2 e3 e4 e5 e6 e7 e8 th kd zs od lk nu rb rg td ob co tp _ hr1) (cwV 1 hts gw_X1_64 rfl rfl rfl ⟨rfl, by decide, by decide, by decide +kernel⟩ ⟨Nat.le_of_ble_eq_true rfl, Nat.le_of_ble_eq_true rfl⟩) ⟨hw_blind, va_recv (q0 := 0) (ci := 1) (q := (RX1, TX1, 12)) hK hP rfl rfl, hw_pay hP hK hD⟩ rfl rfl hl.1 rfl (lv_room (Nat.le_of_ble_eq_true rfl)) dX1_fails_3 ⟨by decide, by decide⟩) ?_
    refine W.eq (g2 := F0 m 6 ls [.int 0, .ref g0]) rfl ?_
    refine lv_if_ne hx hb dX1_fails_6 (tgt := 13) (by decide) (fun hc => ?_) (fun hc => ?_)
    · exact absurd rfl hc
    · skip
      refine lv_iconst (v := 1) hx hb dX1_fails_9 (by decide) ?_
      refine lv_goto hx hb dX1_fails_10 (tgt := 46) (by decide) ?_
      refine hw_topi (y := nI k) (by rw [hp_lk_y hk hr1]; decide) ?_
      exact tail () H locs ls (trivial) hP hD hS (lv_sub hl [0, 1, 2] rfl)
  · skip
    refine W.callR (W.runV (As := [.int r]) (rest := [.ref g0]) ⟨hx, hb, hml, hown, hts⟩ (c1_X1_isRegister l dC dI g0 b1 b2 b3 b4 b5 b6 b7 b8 e1 e2 e3 e4 e5 e6 e7 e8 th kd zs od lk nu rb rg td ob co tp _ hr1) (cwV 1 hts gw_X1_64 rfl rfl rfl ⟨rfl, by decide, by decide, by decide +kernel⟩ ⟨Nat.le_of_ble_eq_true rfl, Nat.le_of_ble_eq_true rfl⟩) ⟨hw_blind, va_recv (q0 := 0) (ci := 1) (q := (RX1, TX1, 12)) hK hP rfl rfl, hw_pay hP hK hD⟩ rfl rfl hl.1 rfl (lv_room (Nat.le_of_ble_eq_true rfl)) dX1_fails_3 ⟨by decide, by decide⟩) ?_
    refine W.eq (g2 := F0 m 6 ls [.int 1, .ref g0]) rfl ?_
    refine lv_if_ne hx hb dX1_fails_6 (tgt := 13) (by decide) (fun hc => ?_) (fun hc => ?_)
    · skip
      have hcd := hp_lk_n hk hr1
      obtain ⟨j, hj, hRj⟩ := hp_ok' hr1
      rw [hp_atE hRj hj] at hcd
      refine lv_aload_n hx hb dX1_fails_13 rfl (lv_at hl 0 rfl) ?_
      refine va_get (D := (dC, dI)) (ci := 1) (v := .ref b7) (C := RX1) (T := TX1) (N := 12) hx hb hts inX1 hown hK hP 0 rfl rfl 7 (by decide) (hts _ bw_fl_X1_30) (fun _ h9 => h9) rfl dX1_fails_14 ?_
      refine lv_iload_n hx hb dX1_fails_17 rfl (lv_at hl 1 rfl) ?_
      refine hw_iald (j := j) hx hb hK hP 7 6 rfl rfl (hRj) (hj) (by decide) dX1_fails_18 ?_
      refine hw_topi (y := nI (hp_r M j)) (hQ.2.2.1 j hj) ?_
      refine lv_if_ne hx hb dX1_fails_19 (tgt := 26) (by decide) (fun hc => ?_) (fun hc => ?_)
      · have h00 : hp_r M j ≠ 0 := fun h9 => hc ((hp_r0 hW hj).mpr h9)
        have hoL := (hW.2.2.2.1 j hj).resolve_left h00
        refine lv_aload_n hx hb dX1_fails_26 rfl (lv_at hl 0 rfl) ?_
        refine lv_aload_n hx hb dX1_fails_27 rfl (lv_at hl 0 rfl) ?_
        refine va_get (D := (dC, dI)) (ci := 1) (v := .ref b7) (C := RX1) (T := TX1) (N := 12) hx hb hts inX1 hown hK hP 0 rfl rfl 7 (by decide) (hts _ bw_fl_X1_30) (fun _ h9 => h9) rfl dX1_fails_28 ?_
        refine lv_iload_n hx hb dX1_fails_31 rfl (lv_at hl 1 rfl) ?_
        refine hw_iald (j := j) hx hb hK hP 7 6 rfl rfl (hRj) (hj) (by decide) dX1_fails_32 ?_
        refine hw_topi (y := nI (hp_r M j)) (hQ.2.2.1 j hj) ?_
        refine lv_iconst (v := 2) hx hb dX1_fails_33 (by decide) ?_
        refine lv_iload_n hx hb dX1_fails_34 rfl (lv_at hl 2 rfl) ?_
        refine W.eq (g2 := F0 m 35 ls [.int i, .int (nI 2), .int (nI (hp_r M j)), .ref g0, .ref g0]) rfl ?_
        by_cases hwr : (hp_k M (hp_r M j) = 2 ∧ ¬ hp_bad i (hp_z M (hp_r M j)))
        · skip
          refine W.callR (W.runV (As := [.int (nI (hp_r M j)), .int (nI 2), .int i]) (rest := [.ref g0]) ⟨hx, hb, hml, hown, hts⟩ (c0_X1_isWrong l dC dI g0 b1 b2 b3 b4 b5 b6 b7 b8 e1 e2 e3 e4 e5 e6 e7 e8 th kd zs od lk nu rb rg td ob co tp _ M hW hQ (hp_r M j) 2 i hoL (by decide) hwr) (cwV 3 hts gw_X1_75 rfl rfl rfl ⟨rfl, by decide, by decide, by decide +kernel⟩ ⟨Nat.le_of_ble_eq_true rfl, Nat.le_of_ble_eq_true rfl⟩) ⟨hw_blind, va_recv (q0 := 0) (ci := 1) (q := (RX1, TX1, 12)) hK hP rfl rfl, hw_pay hP hK hD⟩ rfl rfl hl.1 rfl (lv_room (Nat.le_of_ble_eq_true rfl)) dX1_fails_35 ⟨by decide, by decide⟩) ?_
          refine W.eq (g2 := F0 m 38 ls [.int 0, .ref g0]) rfl ?_
          refine lv_if_eq hx hb dX1_fails_38 (tgt := 45) (by decide) (fun hc => ?_) (fun hc => ?_)
          · skip
            refine lv_iconst (v := 0) hx hb dX1_fails_45 (by decide) ?_
            refine hw_topi (y := nI k) (by rw [hp_cd_ok h00 hwr.1 hwr.2 hcd]; decide) ?_
            exact tail () H locs ls (trivial) hP hD hS (lv_sub hl [0, 1, 2] rfl)
          · exact absurd rfl hc
        · skip
          refine W.callR (W.runV (As := [.int (nI (hp_r M j)), .int (nI 2), .int i]) (rest := [.ref g0]) ⟨hx, hb, hml, hown, hts⟩ (c1_X1_isWrong l dC dI g0 b1 b2 b3 b4 b5 b6 b7 b8 e1 e2 e3 e4 e5 e6 e7 e8 th kd zs od lk nu rb rg td ob co tp _ M hW hQ (hp_r M j) 2 i hoL (by decide) hwr) (cwV 3 hts gw_X1_75 rfl rfl rfl ⟨rfl, by decide, by decide, by decide +kernel⟩ ⟨Nat.le_of_ble_eq_true rfl, Nat.le_of_ble_eq_true rfl⟩) ⟨hw_blind, va_recv (q0 := 0) (ci := 1) (q := (RX1, TX1, 12)) hK hP rfl rfl, hw_pay hP hK hD⟩ rfl rfl hl.1 rfl (lv_room (Nat.le_of_ble_eq_true rfl)) dX1_fails_35 ⟨by decide, by decide⟩) ?_
          refine W.eq (g2 := F0 m 38 ls [.int 1, .ref g0]) rfl ?_
          refine lv_if_eq hx hb dX1_fails_38 (tgt := 45) (by decide) (fun hc => ?_) (fun hc => ?_)
          · exact absurd hc hp_10
          · skip
            refine lv_iconst (v := 1) hx hb dX1_fails_41 (by decide) ?_
            refine lv_goto hx hb dX1_fails_42 (tgt := 46) (by decide) ?_
            refine hw_topi (y := nI k) (by rw [hp_cd_1 h00 ((Classical.em (hp_k M (hp_r M j) = 2)).elim (fun h9 => Or.inr (Classical.byContradiction fun h8 => hwr ⟨h9, h8⟩)) Or.inl) hcd]; decide) ?_
            exact tail () H locs ls (trivial) hP hD hS (lv_sub hl [0, 1, 2] rfl)
      · have h00 : hp_r M j = 0 := (hp_r0 hW hj).mp hc
        refine lv_iconst (v := 2) hx hb dX1_fails_22 (by decide) ?_
        refine lv_goto hx hb dX1_fails_23 (tgt := 46) (by decide) ?_
        refine hw_topi (y := nI k) (by rw [hp_cd_0 h00 hcd]; decide) ?_
        exact tail () H locs ls (trivial) hP hD hS (lv_sub hl [0, 1, 2] rfl)
    · exact absurd hc hp_10

set_option maxHeartbeats 4000000 in
set_option maxRecDepth 100000 in
theorem c_X1_put (l : Launch) (dC : Nat → ClassId) (dI : Nat → Nat → Nat) (g0 b1 b2 b3 b4 b5 b6 b7 b8 : Nat) (e1 e2 e3 e4 e5 e6 e7 e8 : ClassId) (th : Int32) (kd zs od lk : Nat → Int32) (nu : Nat → Int64) (rb rg td : Nat → Int32) (ob co tp : Int32) (sz : Nat) (M : hp_S) (hW : hp_W M) (hQ : hp_Q M kd zs od lk nu rg ob co) (r i : Int32) (k : Nat) (hk : hp_lk M (hp_bad r 16) (hp_at M r) i (hp_k M (hp_at M r) = 2) k) (v : Int64) : Met l yX1_put wsX1_put ({ frames := 2, cells := 0, slots := 0, locals := 45 }) (va_Pc [.ref g0, .int r, .int i, .long v] (hw_pre (dC, dI) vwCl [(e1, .int), (e2, .int), (e3, .int), (e4, .int), (e5, .long), (e6, .boolean), (e7, .int), (e8, .int)] [(g0, .inr (1, [.int th, .ref b1, .ref b2, .ref b3, .ref b4, .ref b5, .ref b6, .ref b7, .ref b8, .int ob, .int co, .int tp])), (b1, .inl (e1, 301, .inl kd)), (b2, .inl (e2, 301, .inl zs)), (b3, .inl (e3, 301, .inl od)), (b4, .inl (e4, 12040, .inl lk)), (b5, .inl (e5, 12040, .inr (.inl nu))), (b6, .inl (e6, 301, .inl rb)), (b7, .inl (e7, 16, .inl rg)), (b8, .inl (e8, 301, .inl td))] sz)) (va_Qv (fun u : Int32 × (Nat → Int64) => u.1 = nI k ∧ hp_Q (hp_dp M r i v k) kd zs od lk u.2 rg ob co) (fun u t => hw_B (dC, dI) vwCl [(e1, .int), (e2, .int), (e3, .int), (e4, .int), (e5, .long), (e6, .boolean), (e7, .int), (e8, .int)] (va_A [(g0, .inr (1, [.int th, .ref b1, .ref b2, .ref b3, .ref b4, .ref b5, .ref b6, .ref b7, .ref b8, .int ob, .int co, .int tp])), (b1, .inl (e1, 301, .inl kd)), (b2, .inl (e2, 301, .inl zs)), (b3, .inl (e3, 301, .inl od)), (b4, .inl (e4, 12040, .inl lk)), (b5, .inl (e5, 12040, .inr (.inl nu))), (b6, .inl (e6, 301, .inl rb)), (b7, .inl (e7, 16, .inl rg)), (b8, .inl (e8, 301, .inl td))] sz) ((fun u : Int32 × (Nat → Int64) => [(g0, .inr (1, [.int u.1, .ref b1, .ref b2, .ref b3, .ref b4, .ref b5, .ref b6, .ref b7, .ref b8, .int ob, .int co, .int tp])), (b1, .inl (e1, 301, .inl kd)), (b2, .inl (e2, 301, .inl zs)), (b3, .inl (e3, 301, .inl od)), (b4, .inl (e4, 12040, .inl lk)), (b5, .inl (e5, 12040, .inr (.inl u.2))), (b6, .inl (e6, 301, .inl rb)), (b7, .inl (e7, 16, .inl rg)), (b8, .inl (e8, 301, .inl td))]) u) t) (va_A [(g0, .inr (1, [.int th, .ref b1, .ref b2, .ref b3, .ref b4, .ref b5, .ref b6, .ref b7, .ref b8, .int ob, .int co, .int tp])), (b1, .inl (e1, 301, .inl kd)), (b2, .inl (e2, 301, .inl zs)), (b3, .inl (e3, 301, .inl od)), (b4, .inl (e4, 12040, .inl lk)), (b5, .inl (e5, 12040, .inr (.inl nu))), (b6, .inl (e6, 301, .inl rb)), (b7, .inl (e7, 16, .inl rg)), (b8, .inl (e8, 301, .inl td))] sz)) 0 0 (va_A [(g0, .inr (1, [.int th, .ref b1, .ref b2, .ref b3, .ref b4, .ref b5, .ref b6, .ref b7, .ref b8, .int ob, .int co, .int tp])), (b1, .inl (e1, 301, .inl kd)), (b2, .inl (e2, 301, .inl zs)), (b3, .inl (e3, 301, .inl od)), (b4, .inl (e4, 12040, .inl lk)), (b5, .inl (e5, 12040, .inr (.inl nu))), (b6, .inl (e6, 301, .inl rb)), (b7, .inl (e7, 16, .inl rg)), (b8, .inl (e8, 301, .inl td))] sz) := by
  refine Met.ofW (cc := cX1_put) (maxL := 5) (ret := none) (by decide) rfl ?_
  intro p e s m args below meth c s₁ B hml hv
  obtain ⟨hargs, hsz, hP, hK, hD0⟩ := hv
  have hx := B.exec
  have hb := B.bytes
  have hr := B.returns
  have hts : ∀ w ∈ wb, w.before _ s = true := fun w h => atoms_spec (ws := wsX1_put) B.pre w (List.mem_cons_of_mem _ h)
  have hown : s.vm.findClass RX1 = some m.cls := findClass_of_methodNamed B.named
  have hlocks := B.notSynchronized
  subst hsz
  have hD := hD0.self (sz := s.heap.size)
  generalize hAe : va_A [(g0, .inr (1, [.int th, .ref b1, .ref b2, .ref b3, .ref b4, .ref b5, .ref b6, .ref b7, .ref b8, .int ob, .int co, .int tp])), (b1, .inl (e1, 301, .inl kd)), (b2, .inl (e2, 301, .inl zs)), (b3, .inl (e3, 301, .inl od)), (b4, .inl (e4, 12040, .inl lk)), (b5, .inl (e5, 12040, .inr (.inl nu))), (b6, .inl (e6, 301, .inl rb)), (b7, .inl (e7, 16, .inl rg)), (b8, .inl (e8, 301, .inl td))] s.heap.size = A at hD ⊢
  have hA : ∀ q : Nat, s.heap.size ≤ q → A q := fun q h => by rw [← hAe]; exact Or.inr h
  have hS : va_S A s.heap s.heap [] := va_S.rf
  generalize hQ9 : MQ below (va_Qv (fun u : Int32 × (Nat → Int64) => u.1 = nI k ∧ hp_Q (hp_dp M r i v k) kd zs od lk u.2 rg ob co) (fun u t => hw_B (dC, dI) vwCl [(e1, .int), (e2, .int), (e3, .int), (e4, .int), (e5, .long), (e6, .boolean), (e7, .int), (e8, .int)] A ((fun u : Int32 × (Nat → Int64) => [(g0, .inr (1, [.int u.1, .ref b1, .ref b2, .ref b3, .ref b4, .ref b5, .ref b6, .ref b7, .ref b8, .int ob, .int co, .int tp])), (b1, .inl (e1, 301, .inl kd)), (b2, .inl (e2, 301, .inl zs)), (b3, .inl (e3, 301, .inl od)), (b4, .inl (e4, 12040, .inl lk)), (b5, .inl (e5, 12040, .inr (.inl u.2))), (b6, .inl (e6, 301, .inl rb)), (b7, .inl (e7, 16, .inl rg)), (b8, .inl (e8, 301, .inl td))]) u) t) A) args s 0 0 A = Q9
  have hl := lv_entry ([.ref g0, .int r, .int i, .long v]) (n := 5) (Nat.le_of_ble_eq_true rfl)
  rw [show entryFrame m args 5 = _ from (congrArg (fun z => entryFrame m z 5) hargs).trans (lg_entry_eq m [.ref g0, .int r, .int i, .long v] 5)]
  generalize (lg_sl ([.ref g0, .int r, .int i, .long v]) ++ List.replicate (5 - (lg_sl ([.ref g0, .int r, .int i, .long v])).length) Slot.unset).toArray = ls at hl ⊢
  have hl : lv_has ls 5 [(0, .ref g0), (1, .int r), (2, .int i), (3, .long v)] := hl
  obtain ⟨H, hH⟩ : ∃ H, H = s.heap := ⟨_, rfl⟩
  rw [← hH] at hP
  have hS : va_S A s.heap H [] := by rw [hH]; exact hS
  rw [← hH]
  generalize ([] : List Loc) = locs at hS ⊢
  refine lv_aload_n hx hb dX1_put_0 rfl (lv_at hl 0 rfl) ?_
  refine lv_iload_n hx hb dX1_put_1 rfl (lv_at hl 1 rfl) ?_
  refine lv_iload_n hx hb dX1_put_2 rfl (lv_at hl 2 rfl) ?_
  refine hw_calli (va_runV (As := [.int r, .int i]) (rest := []) ⟨hx, hb, hml, hown, hts⟩ (c_X1_fails l dC dI g0 b1 b2 b3 b4 b5 b6 b7 b8 e1 e2 e3 e4 e5 e6 e7 e8 th kd zs od lk nu rb rg td ob co tp _ M hW hQ r i k hk) (cwV 2 hts gw_X1_79 rfl rfl rfl ⟨rfl, by decide, by decide, by decide +kernel⟩ ⟨Nat.le_of_ble_eq_true rfl, Nat.le_of_ble_eq_true rfl⟩) ⟨hw_blind, va_recv (q0 := 0) (ci := 1) (q := (RX1, TX1, 12)) hK hP rfl rfl, hw_pay hP hK hD⟩ rfl rfl hl.1 rfl (lv_room (Nat.le_of_ble_eq_true rfl)) dX1_put_3 ⟨by decide, by decide⟩) hD hS hA (fun r9 u9 H locs hw hP hD hS => ?_)
  obtain ⟨th1, hth1⟩ : ∃ z, z = u9 := ⟨_, rfl⟩
  rw [← hth1] at hP hD hw
  have hP : va_P (dC, dI) vwCl [(g0, .inr (1, [.int th1, .ref b1, .ref b2, .ref b3, .ref b4, .ref b5, .ref b6, .ref b7, .ref b8, .int ob, .int co, .int tp])), (b1, .inl (e1, 301, .inl kd)), (b2, .inl (e2, 301, .inl zs)), (b3, .inl (e3, 301, .inl od)), (b4, .inl (e4, 12040, .inl lk)), (b5, .inl (e5, 12040, .inr (.inl nu))), (b6, .inl (e6, 301, .inl rb)), (b7, .inl (e7, 16, .inl rg)), (b8, .inl (e8, 301, .inl td))] H := hP
  have hD : va_D A [(g0, .inr (1, [.int th1, .ref b1, .ref b2, .ref b3, .ref b4, .ref b5, .ref b6, .ref b7, .ref b8, .int ob, .int co, .int tp])), (b1, .inl (e1, 301, .inl kd)), (b2, .inl (e2, 301, .inl zs)), (b3, .inl (e3, 301, .inl od)), (b4, .inl (e4, 12040, .inl lk)), (b5, .inl (e5, 12040, .inr (.inl nu))), (b6, .inl (e6, 301, .inl rb)), (b7, .inl (e7, 16, .inl rg)), (b8, .inl (e8, 301, .inl td))] := hD
  refine hw_topi (y := if k = 0 then 0 else 1) (hw.1) ?_
  refine lv_if_ne hx hb dX1_put_6 (tgt := 26) (by decide) (fun hc => ?_) (fun hc => ?_)
  · have hk0 : k ≠ 0 := fun h9 => hc (if_pos h9)
    subst hQ9
    exact W.vret hx hb hr (fun t ht hWm => ⟨⟨(th1, nu), rfl, ⟨hw.2, by unfold hp_dp; rw [if_neg hk0]; exact hQ⟩, by rw [ht]; exact hP, va_K.moved hWm.alike hK, hD⟩, hS.F ht⟩) hS.2.2 dX1_put_26
  · have hk0 : k = 0 := Classical.byContradiction fun h9 => hp_10 ((if_neg h9).symm.trans hc)
    obtain ⟨hnb, h00, hok, hbi⟩ := hp_lk_0 hk hk0
    obtain ⟨j, hj, hRj⟩ := hp_ok' hnb
    rw [hp_atE hRj hj] at h00 hok hbi
    have hoL := (hW.2.2.2.1 j hj).resolve_left h00
    have hw9 := hW.2.1 _ hoL
    obtain ⟨q, hq, hiq⟩ := hp_ok hbi (by omega)
    refine lv_aload_n hx hb dX1_put_9 rfl (lv_at hl 0 rfl) ?_
    refine va_get (D := (dC, dI)) (ci := 1) (v := .ref b5) (C := RX1) (T := TX1) (N := 12) hx hb hts inX1 hown hK hP 0 rfl rfl 5 (by decide) (hts _ bw_fl_X1_22) (fun _ h9 => h9) rfl dX1_put_10 ?_
    refine lv_bipush (v := 40) hx hb dX1_put_13 (by decide) ?_
    refine lv_aload_n hx hb dX1_put_15 rfl (lv_at hl 0 rfl) ?_
    refine va_get (D := (dC, dI)) (ci := 1) (v := .ref b7) (C := RX1) (T := TX1) (N := 12) hx hb hts inX1 hown hK hP 0 rfl rfl 7 (by decide) (hts _ bw_fl_X1_30) (fun _ h9 => h9) rfl dX1_put_16 ?_
    refine lv_iload_n hx hb dX1_put_19 rfl (lv_at hl 1 rfl) ?_
    refine hw_iald (j := j) hx hb hK hP 7 6 rfl rfl (hRj) (hj) (by decide) dX1_put_20 ?_
    refine hw_topi (y := nI (hp_r M j)) (hQ.2.2.1 j hj) ?_
    refine lv_imul hx hb dX1_put_21 ?_
    refine lv_iload_n hx hb dX1_put_22 rfl (lv_at hl 2 rfl) ?_
    refine lv_iadd hx hb dX1_put_23 ?_
    refine lv_lload_n hx hb dX1_put_24 rfl (lv_at hl 3 rfl) ?_
    refine hw_last (j := 40 * hp_r M j + q) hx hb hK hP hD hS 5 4 rfl rfl (by rw [hiq]; exact hp_40i _ _) (by omega) (by decide) dX1_put_25 (fun H locs hP hD hS => ?_)
    have hP : va_P (dC, dI) vwCl [(g0, .inr (1, [.int th1, .ref b1, .ref b2, .ref b3, .ref b4, .ref b5, .ref b6, .ref b7, .ref b8, .int ob, .int co, .int tp])), (b1, .inl (e1, 301, .inl kd)), (b2, .inl (e2, 301, .inl zs)), (b3, .inl (e3, 301, .inl od)), (b4, .inl (e4, 12040, .inl lk)), (b5, .inl (e5, 12040, .inr (.inl (vp_updL nu (40 * hp_r M j + q) v)))), (b6, .inl (e6, 301, .inl rb)), (b7, .inl (e7, 16, .inl rg)), (b8, .inl (e8, 301, .inl td))] H := hP
    have hD : va_D A [(g0, .inr (1, [.int th1, .ref b1, .ref b2, .ref b3, .ref b4, .ref b5, .ref b6, .ref b7, .ref b8, .int ob, .int co, .int tp])), (b1, .inl (e1, 301, .inl kd)), (b2, .inl (e2, 301, .inl zs)), (b3, .inl (e3, 301, .inl od)), (b4, .inl (e4, 12040, .inl lk)), (b5, .inl (e5, 12040, .inr (.inl (vp_updL nu (40 * hp_r M j + q) v)))), (b6, .inl (e6, 301, .inl rb)), (b7, .inl (e7, 16, .inl rg)), (b8, .inl (e8, 301, .inl td))] := hD
    subst hQ9
    exact W.vret hx hb hr (fun t ht hWm => ⟨⟨(th1, (vp_updL nu (40 * hp_r M j + q) v)), rfl, ⟨hw.2, by unfold hp_dp; rw [if_pos hk0, hp_atE hRj hj, hp_cl hiq hq hw9.2.2.2.2.1]; exact hp_sn_Q hW hQ (by omega)⟩, by rw [ht]; exact hP, va_K.moved hWm.alike hK, hD⟩, hS.F ht⟩) hS.2.2 dX1_put_26

set_option maxHeartbeats 4000000 in
set_option maxRecDepth 100000 in
theorem c_X1_get (l : Launch) (dC : Nat → ClassId) (dI : Nat → Nat → Nat) (g0 b1 b2 b3 b4 b5 b6 b7 b8 : Nat) (e1 e2 e3 e4 e5 e6 e7 e8 : ClassId) (th : Int32) (kd zs od lk : Nat → Int32) (nu : Nat → Int64) (rb rg td : Nat → Int32) (ob co tp : Int32) (sz : Nat) (M : hp_S) (hW : hp_W M) (hQ : hp_Q M kd zs od lk nu rg ob co) (r i : Int32) (k : Nat) (hk : hp_lk M (hp_bad r 16) (hp_at M r) i (hp_k M (hp_at M r) = 2) k) : Met l yX1_get wsX1_get ({ frames := 2, cells := 0, slots := 0, locals := 45 }) (va_Pc [.ref g0, .int r, .int i] (hw_pre (dC, dI) vwCl [(e1, .int), (e2, .int), (e3, .int), (e4, .int), (e5, .long), (e6, .boolean), (e7, .int), (e8, .int)] [(g0, .inr (1, [.int th, .ref b1, .ref b2, .ref b3, .ref b4, .ref b5, .ref b6, .ref b7, .ref b8, .int ob, .int co, .int tp])), (b1, .inl (e1, 301, .inl kd)), (b2, .inl (e2, 301, .inl zs)), (b3, .inl (e3, 301, .inl od)), (b4, .inl (e4, 12040, .inl lk)), (b5, .inl (e5, 12040, .inr (.inl nu))), (b6, .inl (e6, 301, .inl rb)), (b7, .inl (e7, 16, .inl rg)), (b8, .inl (e8, 301, .inl td))] sz)) (va_Ql (fun (x : Int64) (u : Int32) => u = nI k ∧ (k = 0 → x = hp_n M (hp_at M r) i.toNatClampNeg)) (fun u t => hw_B (dC, dI) vwCl [(e1, .int), (e2, .int), (e3, .int), (e4, .int), (e5, .long), (e6, .boolean), (e7, .int), (e8, .int)] (va_A [(g0, .inr (1, [.int th, .ref b1, .ref b2, .ref b3, .ref b4, .ref b5, .ref b6, .ref b7, .ref b8, .int ob, .int co, .int tp])), (b1, .inl (e1, 301, .inl kd)), (b2, .inl (e2, 301, .inl zs)), (b3, .inl (e3, 301, .inl od)), (b4, .inl (e4, 12040, .inl lk)), (b5, .inl (e5, 12040, .inr (.inl nu))), (b6, .inl (e6, 301, .inl rb)), (b7, .inl (e7, 16, .inl rg)), (b8, .inl (e8, 301, .inl td))] sz) ((fun u : Int32 => [(g0, .inr (1, [.int u, .ref b1, .ref b2, .ref b3, .ref b4, .ref b5, .ref b6, .ref b7, .ref b8, .int ob, .int co, .int tp])), (b1, .inl (e1, 301, .inl kd)), (b2, .inl (e2, 301, .inl zs)), (b3, .inl (e3, 301, .inl od)), (b4, .inl (e4, 12040, .inl lk)), (b5, .inl (e5, 12040, .inr (.inl nu))), (b6, .inl (e6, 301, .inl rb)), (b7, .inl (e7, 16, .inl rg)), (b8, .inl (e8, 301, .inl td))]) u) t) (va_A [(g0, .inr (1, [.int th, .ref b1, .ref b2, .ref b3, .ref b4, .ref b5, .ref b6, .ref b7, .ref b8, .int ob, .int co, .int tp])), (b1, .inl (e1, 301, .inl kd)), (b2, .inl (e2, 301, .inl zs)), (b3, .inl (e3, 301, .inl od)), (b4, .inl (e4, 12040, .inl lk)), (b5, .inl (e5, 12040, .inr (.inl nu))), (b6, .inl (e6, 301, .inl rb)), (b7, .inl (e7, 16, .inl rg)), (b8, .inl (e8, 301, .inl td))] sz)) 0 0 (va_A [(g0, .inr (1, [.int th, .ref b1, .ref b2, .ref b3, .ref b4, .ref b5, .ref b6, .ref b7, .ref b8, .int ob, .int co, .int tp])), (b1, .inl (e1, 301, .inl kd)), (b2, .inl (e2, 301, .inl zs)), (b3, .inl (e3, 301, .inl od)), (b4, .inl (e4, 12040, .inl lk)), (b5, .inl (e5, 12040, .inr (.inl nu))), (b6, .inl (e6, 301, .inl rb)), (b7, .inl (e7, 16, .inl rg)), (b8, .inl (e8, 301, .inl td))] sz) := by
  refine Met.ofW (cc := cX1_get) (maxL := 3) (ret := some .long) (by decide) rfl ?_
  intro p e s m args below meth c s₁ B hml hv
  obtain ⟨hargs, hsz, hP, hK, hD0⟩ := hv
  have hx := B.exec
  have hb := B.bytes
  have hr := B.returns
  have hts : ∀ w ∈ wb, w.before _ s = true := fun w h => atoms_spec (ws := wsX1_get) B.pre w (List.mem_cons_of_mem _ h)
  have hown : s.vm.findClass RX1 = some m.cls := findClass_of_methodNamed B.named
  have hlocks := B.notSynchronized
  subst hsz
  have hD := hD0.self (sz := s.heap.size)
  generalize hAe : va_A [(g0, .inr (1, [.int th, .ref b1, .ref b2, .ref b3, .ref b4, .ref b5, .ref b6, .ref b7, .ref b8, .int ob, .int co, .int tp])), (b1, .inl (e1, 301, .inl kd)), (b2, .inl (e2, 301, .inl zs)), (b3, .inl (e3, 301, .inl od)), (b4, .inl (e4, 12040, .inl lk)), (b5, .inl (e5, 12040, .inr (.inl nu))), (b6, .inl (e6, 301, .inl rb)), (b7, .inl (e7, 16, .inl rg)), (b8, .inl (e8, 301, .inl td))] s.heap.size = A at hD ⊢
  have hA : ∀ q : Nat, s.heap.size ≤ q → A q := fun q h => by rw [← hAe]; exact Or.inr h
  have hS : va_S A s.heap s.heap [] := va_S.rf
  generalize hQ9 : MQ below (va_Ql (fun (x : Int64) (u : Int32) => u = nI k ∧ (k = 0 → x = hp_n M (hp_at M r) i.toNatClampNeg)) (fun u t => hw_B (dC, dI) vwCl [(e1, .int), (e2, .int), (e3, .int), (e4, .int), (e5, .long), (e6, .boolean), (e7, .int), (e8, .int)] A ((fun u : Int32 => [(g0, .inr (1, [.int u, .ref b1, .ref b2, .ref b3, .ref b4, .ref b5, .ref b6, .ref b7, .ref b8, .int ob, .int co, .int tp])), (b1, .inl (e1, 301, .inl kd)), (b2, .inl (e2, 301, .inl zs)), (b3, .inl (e3, 301, .inl od)), (b4, .inl (e4, 12040, .inl lk)), (b5, .inl (e5, 12040, .inr (.inl nu))), (b6, .inl (e6, 301, .inl rb)), (b7, .inl (e7, 16, .inl rg)), (b8, .inl (e8, 301, .inl td))]) u) t) A) args s 0 0 A = Q9
  have hl := lv_entry ([.ref g0, .int r, .int i]) (n := 3) (Nat.le_of_ble_eq_true rfl)
  rw [show entryFrame m args 3 = _ from (congrArg (fun z => entryFrame m z 3) hargs).trans (lg_entry_eq m [.ref g0, .int r, .int i] 3)]
  generalize (lg_sl ([.ref g0, .int r, .int i]) ++ List.replicate (3 - (lg_sl ([.ref g0, .int r, .int i])).length) Slot.unset).toArray = ls at hl ⊢
  have hl : lv_has ls 3 [(0, .ref g0), (1, .int r), (2, .int i)] := hl
  obtain ⟨H, hH⟩ : ∃ H, H = s.heap := ⟨_, rfl⟩
  rw [← hH] at hP
  have hS : va_S A s.heap H [] := by rw [hH]; exact hS
  rw [← hH]
  generalize ([] : List Loc) = locs at hS ⊢
  refine lv_aload_n hx hb dX1_get_0 rfl (lv_at hl 0 rfl) ?_
  refine lv_iload_n hx hb dX1_get_1 rfl (lv_at hl 1 rfl) ?_
  refine lv_iload_n hx hb dX1_get_2 rfl (lv_at hl 2 rfl) ?_
  refine hw_calli (va_runV (As := [.int r, .int i]) (rest := []) ⟨hx, hb, hml, hown, hts⟩ (c_X1_fails l dC dI g0 b1 b2 b3 b4 b5 b6 b7 b8 e1 e2 e3 e4 e5 e6 e7 e8 th kd zs od lk nu rb rg td ob co tp _ M hW hQ r i k hk) (cwV 2 hts gw_X1_79 rfl rfl rfl ⟨rfl, by decide, by decide, by decide +kernel⟩ ⟨Nat.le_of_ble_eq_true rfl, Nat.le_of_ble_eq_true rfl⟩) ⟨hw_blind, va_recv (q0 := 0) (ci := 1) (q := (RX1, TX1, 12)) hK hP rfl rfl, hw_pay hP hK hD⟩ rfl rfl hl.1 rfl (lv_room (Nat.le_of_ble_eq_true rfl)) dX1_get_3 ⟨by decide, by decide⟩) hD hS hA (fun r9 u9 H locs hw hP hD hS => ?_)
  obtain ⟨th1, hth1⟩ : ∃ z, z = u9 := ⟨_, rfl⟩
  rw [← hth1] at hP hD hw
  have hP : va_P (dC, dI) vwCl [(g0, .inr (1, [.int th1, .ref b1, .ref b2, .ref b3, .ref b4, .ref b5, .ref b6, .ref b7, .ref b8, .int ob, .int co, .int tp])), (b1, .inl (e1, 301, .inl kd)), (b2, .inl (e2, 301, .inl zs)), (b3, .inl (e3, 301, .inl od)), (b4, .inl (e4, 12040, .inl lk)), (b5, .inl (e5, 12040, .inr (.inl nu))), (b6, .inl (e6, 301, .inl rb)), (b7, .inl (e7, 16, .inl rg)), (b8, .inl (e8, 301, .inl td))] H := hP
  have hD : va_D A [(g0, .inr (1, [.int th1, .ref b1, .ref b2, .ref b3, .ref b4, .ref b5, .ref b6, .ref b7, .ref b8, .int ob, .int co, .int tp])), (b1, .inl (e1, 301, .inl kd)), (b2, .inl (e2, 301, .inl zs)), (b3, .inl (e3, 301, .inl od)), (b4, .inl (e4, 12040, .inl lk)), (b5, .inl (e5, 12040, .inr (.inl nu))), (b6, .inl (e6, 301, .inl rb)), (b7, .inl (e7, 16, .inl rg)), (b8, .inl (e8, 301, .inl td))] := hD
  refine hw_topi (y := if k = 0 then 0 else 1) (hw.1) ?_
  refine lv_if_eq hx hb dX1_get_6 (tgt := 13) (by decide) (fun hc => ?_) (fun hc => ?_)
  · have hk0 : k = 0 := Classical.byContradiction fun h9 => hp_10 ((if_neg h9).symm.trans hc)
    obtain ⟨hnb, h00, hok, hbi⟩ := hp_lk_0 hk hk0
    obtain ⟨j, hj, hRj⟩ := hp_ok' hnb
    rw [hp_atE hRj hj] at h00 hok hbi
    have hoL := (hW.2.2.2.1 j hj).resolve_left h00
    have hw9 := hW.2.1 _ hoL
    obtain ⟨q, hq, hiq⟩ := hp_ok hbi (by omega)
    refine lv_aload_n hx hb dX1_get_13 rfl (lv_at hl 0 rfl) ?_
    refine va_get (D := (dC, dI)) (ci := 1) (v := .ref b5) (C := RX1) (T := TX1) (N := 12) hx hb hts inX1 hown hK hP 0 rfl rfl 5 (by decide) (hts _ bw_fl_X1_22) (fun _ h9 => h9) rfl dX1_get_14 ?_
    refine lv_bipush (v := 40) hx hb dX1_get_17 (by decide) ?_
    refine lv_aload_n hx hb dX1_get_19 rfl (lv_at hl 0 rfl) ?_
    refine va_get (D := (dC, dI)) (ci := 1) (v := .ref b7) (C := RX1) (T := TX1) (N := 12) hx hb hts inX1 hown hK hP 0 rfl rfl 7 (by decide) (hts _ bw_fl_X1_30) (fun _ h9 => h9) rfl dX1_get_20 ?_
    refine lv_iload_n hx hb dX1_get_23 rfl (lv_at hl 1 rfl) ?_
    refine hw_iald (j := j) hx hb hK hP 7 6 rfl rfl (hRj) (hj) (by decide) dX1_get_24 ?_
    refine hw_topi (y := nI (hp_r M j)) (hQ.2.2.1 j hj) ?_
    refine lv_imul hx hb dX1_get_25 ?_
    refine lv_iload_n hx hb dX1_get_26 rfl (lv_at hl 2 rfl) ?_
    refine lv_iadd hx hb dX1_get_27 ?_
    refine hw_lald (j := 40 * hp_r M j + q) hx hb hK hP 5 4 rfl rfl (by rw [hiq]; exact hp_40i _ _) (by omega) (by decide) dX1_get_28 ?_
    subst hQ9
    exact W.lret (v := nu (40 * hp_r M j + q)) hx hb hr (fun t ht hWm => ⟨⟨nu (40 * hp_r M j + q), th1, rfl, ⟨hw.2, fun _ => by rw [hp_atE hRj hj, hp_cl hiq hq hw9.2.2.2.2.1]; exact (hQ.2.2.2.2.2 _ hoL).2.2 hok q hq⟩, by rw [ht]; exact hP, va_K.moved hWm.alike hK, hD⟩, hS.F ht⟩) hS.2.2 dX1_get_29
  · have hk0 : k ≠ 0 := fun h9 => hc (if_pos h9)
    refine lv_lconst (v := 0) hx hb dX1_get_9 (by decide) ?_
    refine lv_goto hx hb dX1_get_10 (tgt := 29) (by decide) ?_
    subst hQ9
    exact W.lret (v := 0) hx hb hr (fun t ht hWm => ⟨⟨0, th1, rfl, ⟨hw.2, fun h9 => absurd h9 hk0⟩, by rw [ht]; exact hP, va_K.moved hWm.alike hK, hD⟩, hS.F ht⟩) hS.2.2 dX1_get_29
