set_option maxHeartbeats 4000000 in
set_option maxRecDepth 100000 in
theorem c0_X1_made (l : Launch) (dC : Nat → ClassId) (dI : Nat → Nat → Nat) (g0 b1 b2 b3 b4 b5 b6 b7 b8 : Nat) (e1 e2 e3 e4 e5 e6 e7 e8 : ClassId) (th : Int32) (kd zs od lk : Nat → Int32) (nu : Nat → Int64) (rb rg td : Nat → Int32) (ob co tp : Int32) (sz : Nat) (M : hp_S) (hW : hp_W M) (hQ : hp_Q M kd zs od lk nu rg ob co) (k n : Nat) (hk1 : 1 ≤ k) (hk4 : k < 4) (hn : n ≤ 40) (hw3 : k = 3 → n = 1) (hfull : ¬ hp_tk (hp_rm M n) + (1 + n) ≤ 300) : Met l yX1_made wsX1_made ({ frames := 2, cells := 0, slots := 0, locals := 50 }) (va_Pc [.ref g0, .int (nI k), .int (nI n)] (hw_pre (dC, dI) vwCl [(e1, .int), (e2, .int), (e3, .int), (e4, .int), (e5, .long), (e6, .boolean), (e7, .int), (e8, .int)] [(g0, .inr (1, [.int th, .ref b1, .ref b2, .ref b3, .ref b4, .ref b5, .ref b6, .ref b7, .ref b8, .int ob, .int co, .int tp])), (b1, .inl (e1, 301, .inl kd)), (b2, .inl (e2, 301, .inl zs)), (b3, .inl (e3, 301, .inl od)), (b4, .inl (e4, 12040, .inl lk)), (b5, .inl (e5, 12040, .inr (.inl nu))), (b6, .inl (e6, 301, .inl rb)), (b7, .inl (e7, 16, .inl rg)), (b8, .inl (e8, 301, .inl td))] sz)) (va_Qi (fun (r : Int32) (u : Int32 × (Nat → Int32) × (Nat → Int32) × (Nat → Int32) × (Nat → Int32) × (Nat → Int64) × (Nat → Int32) × (Nat → Int32) × (Nat → Int32) × Int32 × Int32 × Int32) => r = 0 ∧ hp_Q (hp_rm M n) u.2.1 u.2.2.1 u.2.2.2.1 u.2.2.2.2.1 u.2.2.2.2.2.1 u.2.2.2.2.2.2.2.1 u.2.2.2.2.2.2.2.2.2.1 u.2.2.2.2.2.2.2.2.2.2.1) (fun u t => hw_B (dC, dI) vwCl [(e1, .int), (e2, .int), (e3, .int), (e4, .int), (e5, .long), (e6, .boolean), (e7, .int), (e8, .int)] (va_A [(g0, .inr (1, [.int th, .ref b1, .ref b2, .ref b3, .ref b4, .ref b5, .ref b6, .ref b7, .ref b8, .int ob, .int co, .int tp])), (b1, .inl (e1, 301, .inl kd)), (b2, .inl (e2, 301, .inl zs)), (b3, .inl (e3, 301, .inl od)), (b4, .inl (e4, 12040, .inl lk)), (b5, .inl (e5, 12040, .inr (.inl nu))), (b6, .inl (e6, 301, .inl rb)), (b7, .inl (e7, 16, .inl rg)), (b8, .inl (e8, 301, .inl td))] sz) ((fun u : Int32 × (Nat → Int32) × (Nat → Int32) × (Nat → Int32) × (Nat → Int32) × (Nat → Int64) × (Nat → Int32) × (Nat → Int32) × (Nat → Int32) × Int32 × Int32 × Int32 => [(g0, .inr (1, [.int u.1, .ref b1, .ref b2, .ref b3, .ref b4, .ref b5, .ref b6, .ref b7, .ref b8, .int u.2.2.2.2.2.2.2.2.2.1, .int u.2.2.2.2.2.2.2.2.2.2.1, .int u.2.2.2.2.2.2.2.2.2.2.2])), (b1, .inl (e1, 301, .inl u.2.1)), (b2, .inl (e2, 301, .inl u.2.2.1)), (b3, .inl (e3, 301, .inl u.2.2.2.1)), (b4, .inl (e4, 12040, .inl u.2.2.2.2.1)), (b5, .inl (e5, 12040, .inr (.inl u.2.2.2.2.2.1))), (b6, .inl (e6, 301, .inl u.2.2.2.2.2.2.1)), (b7, .inl (e7, 16, .inl u.2.2.2.2.2.2.2.1)), (b8, .inl (e8, 301, .inl u.2.2.2.2.2.2.2.2.1))]) u) t) (va_A [(g0, .inr (1, [.int th, .ref b1, .ref b2, .ref b3, .ref b4, .ref b5, .ref b6, .ref b7, .ref b8, .int ob, .int co, .int tp])), (b1, .inl (e1, 301, .inl kd)), (b2, .inl (e2, 301, .inl zs)), (b3, .inl (e3, 301, .inl od)), (b4, .inl (e4, 12040, .inl lk)), (b5, .inl (e5, 12040, .inr (.inl nu))), (b6, .inl (e6, 301, .inl rb)), (b7, .inl (e7, 16, .inl rg)), (b8, .inl (e8, 301, .inl td))] sz)) 0 0 (va_A [(g0, .inr (1, [.int th, .ref b1, .ref b2, .ref b3, .ref b4, .ref b5, .ref b6, .ref b7, .ref b8, .int ob, .int co, .int tp])), (b1, .inl (e1, 301, .inl kd)), (b2, .inl (e2, 301, .inl zs)), (b3, .inl (e3, 301, .inl od)), (b4, .inl (e4, 12040, .inl lk)), (b5, .inl (e5, 12040, .inr (.inl nu))), (b6, .inl (e6, 301, .inl rb)), (b7, .inl (e7, 16, .inl rg)), (b8, .inl (e8, 301, .inl td))] sz) := by
  refine Met.ofW (cc := cX1_made) (maxL := 6) (ret := some .int) (by decide) rfl ?_
  intro p e s m args below meth c s₁ B hml hv
  obtain ⟨hargs, hsz, hP, hK, hD0⟩ := hv
  have hx := B.exec
  have hb := B.bytes
  have hr := B.returns
  have hts : ∀ w ∈ wb, w.before _ s = true := fun w h => atoms_spec (ws := wsX1_made) B.pre w (List.mem_cons_of_mem _ h)
  have hown : s.vm.findClass RX1 = some m.cls := findClass_of_methodNamed B.named
  have hlocks := B.notSynchronized
  subst hsz
  have hD := hD0.self (sz := s.heap.size)
  generalize hAe : va_A [(g0, .inr (1, [.int th, .ref b1, .ref b2, .ref b3, .ref b4, .ref b5, .ref b6, .ref b7, .ref b8, .int ob, .int co, .int tp])), (b1, .inl (e1, 301, .inl kd)), (b2, .inl (e2, 301, .inl zs)), (b3, .inl (e3, 301, .inl od)), (b4, .inl (e4, 12040, .inl lk)), (b5, .inl (e5, 12040, .inr (.inl nu))), (b6, .inl (e6, 301, .inl rb)), (b7, .inl (e7, 16, .inl rg)), (b8, .inl (e8, 301, .inl td))] s.heap.size = A at hD ⊢
  have hA : ∀ q : Nat, s.heap.size ≤ q → A q := fun q h => by rw [← hAe]; exact Or.inr h
  have hS : va_S A s.heap s.heap [] := va_S.rf
  generalize hQ9 : MQ below (va_Qi (fun (r : Int32) (u : Int32 × (Nat → Int32) × (Nat → Int32) × (Nat → Int32) × (Nat → Int32) × (Nat → Int64) × (Nat → Int32) × (Nat → Int32) × (Nat → Int32) × Int32 × Int32 × Int32) => r = 0 ∧ hp_Q (hp_rm M n) u.2.1 u.2.2.1 u.2.2.2.1 u.2.2.2.2.1 u.2.2.2.2.2.1 u.2.2.2.2.2.2.2.1 u.2.2.2.2.2.2.2.2.2.1 u.2.2.2.2.2.2.2.2.2.2.1) (fun u t => hw_B (dC, dI) vwCl [(e1, .int), (e2, .int), (e3, .int), (e4, .int), (e5, .long), (e6, .boolean), (e7, .int), (e8, .int)] A ((fun u : Int32 × (Nat → Int32) × (Nat → Int32) × (Nat → Int32) × (Nat → Int32) × (Nat → Int64) × (Nat → Int32) × (Nat → Int32) × (Nat → Int32) × Int32 × Int32 × Int32 => [(g0, .inr (1, [.int u.1, .ref b1, .ref b2, .ref b3, .ref b4, .ref b5, .ref b6, .ref b7, .ref b8, .int u.2.2.2.2.2.2.2.2.2.1, .int u.2.2.2.2.2.2.2.2.2.2.1, .int u.2.2.2.2.2.2.2.2.2.2.2])), (b1, .inl (e1, 301, .inl u.2.1)), (b2, .inl (e2, 301, .inl u.2.2.1)), (b3, .inl (e3, 301, .inl u.2.2.2.1)), (b4, .inl (e4, 12040, .inl u.2.2.2.2.1)), (b5, .inl (e5, 12040, .inr (.inl u.2.2.2.2.2.1))), (b6, .inl (e6, 301, .inl u.2.2.2.2.2.2.1)), (b7, .inl (e7, 16, .inl u.2.2.2.2.2.2.2.1)), (b8, .inl (e8, 301, .inl u.2.2.2.2.2.2.2.2.1))]) u) t) A) args s 0 0 A = Q9
  have hl := lv_entry ([.ref g0, .int (nI k), .int (nI n)]) (n := 6) (Nat.le_of_ble_eq_true rfl)
  rw [show entryFrame m args 6 = _ from (congrArg (fun z => entryFrame m z 6) hargs).trans (lg_entry_eq m [.ref g0, .int (nI k), .int (nI n)] 6)]
  generalize (lg_sl ([.ref g0, .int (nI k), .int (nI n)]) ++ List.replicate (6 - (lg_sl ([.ref g0, .int (nI k), .int (nI n)])).length) Slot.unset).toArray = ls at hl ⊢
  have hl : lv_has ls 6 [(0, .ref g0), (1, .int (nI k)), (2, .int (nI n))] := hl
  obtain ⟨H, hH⟩ : ∃ H, H = s.heap := ⟨_, rfl⟩
  rw [← hH] at hP
  have hS : va_S A s.heap H [] := by rw [hH]; exact hS
  rw [← hH]
  generalize ([] : List Loc) = locs at hS ⊢
  have hW1 := hp_rm_W hW n
  have hT := hW.2.2.2.2.2
  have hT1 := hW1.2.2.2.2.2
  have hL1 := hp_len (hp_z (hp_rm M n)) (hp_L (hp_rm M n))
  have tail31 : ∀ (th : Int32) (kd : Nat → Int32) (zs : Nat → Int32) (od : Nat → Int32) (lk : Nat → Int32) (nu : Nat → Int64) (rb : Nat → Int32) (rg : Nat → Int32) (td : Nat → Int32) (ob : Int32) (co : Int32) (tp : Int32) (H : Heap) (locs : List Loc) (ls : Array Slot), (hp_Q (hp_rm M n) kd zs od lk nu rg ob co) → va_P (dC, dI) vwCl [(g0, .inr (1, [.int th, .ref b1, .ref b2, .ref b3, .ref b4, .ref b5, .ref b6, .ref b7, .ref b8, .int ob, .int co, .int tp])), (b1, .inl (e1, 301, .inl kd)), (b2, .inl (e2, 301, .inl zs)), (b3, .inl (e3, 301, .inl od)), (b4, .inl (e4, 12040, .inl lk)), (b5, .inl (e5, 12040, .inr (.inl nu))), (b6, .inl (e6, 301, .inl rb)), (b7, .inl (e7, 16, .inl rg)), (b8, .inl (e8, 301, .inl td))] H → va_D A [(g0, .inr (1, [.int th, .ref b1, .ref b2, .ref b3, .ref b4, .ref b5, .ref b6, .ref b7, .ref b8, .int ob, .int co, .int tp])), (b1, .inl (e1, 301, .inl kd)), (b2, .inl (e2, 301, .inl zs)), (b3, .inl (e3, 301, .inl od)), (b4, .inl (e4, 12040, .inl lk)), (b5, .inl (e5, 12040, .inr (.inl nu))), (b6, .inl (e6, 301, .inl rb)), (b7, .inl (e7, 16, .inl rg)), (b8, .inl (e8, 301, .inl td))] → va_S A s.heap H locs → lv_has ls 6 [(0, .ref g0), (1, .int (nI k)), (2, .int (nI n)), (3, .int (nI (1 + n)))] → W p l e (headSpec wsX1_made ({ frames := 2, cells := 0, slots := 0, locals := 50 })).room s m args below meth c H locs 0 0 Q9 (F0 m 31 ls []) := by
    intro th kd zs od lk nu rb rg td ob co tp H locs ls hI hP hD hS hl
    refine lv_aload_n hx hb dX1_made_31 rfl (lv_at hl 0 rfl) ?_
    refine W.callR (W.runV (As := []) (rest := []) ⟨hx, hb, hml, hown, hts⟩ (c_X1_cells l dC dI g0 b1 b2 b3 b4 b5 b6 b7 b8 e1 e2 e3 e4 e5 e6 e7 e8 th kd zs od lk nu rb rg td ob co tp _ (hp_rm M n) hW1 hI) (cwV 0 hts gw_X1_57 rfl rfl rfl ⟨rfl, by decide, by decide, by decide +kernel⟩ ⟨Nat.le_of_ble_eq_true rfl, Nat.le_of_ble_eq_true rfl⟩) ⟨hw_blind, va_recv (q0 := 0) (ci := 1) (q := (RX1, TX1, 12)) hK hP rfl rfl, hw_pay hP hK hD⟩ rfl rfl hl.1 rfl (lv_room (Nat.le_of_ble_eq_true rfl)) dX1_made_32 ⟨by decide, by decide⟩) ?_
    refine W.eq (g2 := F0 m 35 ls [.int (nI (hp_tk (hp_rm M n)))]) rfl ?_
    refine lv_iload_n hx hb dX1_made_35 rfl (lv_at hl 3 rfl) ?_
    refine lv_iadd hx hb dX1_made_36 ?_
    refine hw_topi (y := nI (hp_tk (hp_rm M n) + (1 + n))) (nI_add _ _) ?_
    refine lv_sipush (v := 300) hx hb dX1_made_37 (by decide) ?_
    refine lv_icmp_le hx hb dX1_made_40 (tgt := 45) (by decide) (fun hc => ?_) (fun hc => ?_)
    · exact absurd ((nI_leI (b := 300) (by omega) (by decide)).mp hc) hfull
    · skip
      refine lv_iconst (v := 0) hx hb dX1_made_43 (by decide) ?_
      subst hQ9
      exact W.iret (v := 0) hx hb hr (fun t ht hWm => ⟨⟨0, (th, kd, zs, od, lk, nu, rb, rg, td, ob, co, tp), rfl, ⟨rfl, hI⟩, by rw [ht]; exact hP, va_K.moved hWm.alike hK, hD⟩, hS.F ht⟩) hS.2.2 dX1_made_44
  have tail12 : ∀ (z9 : Unit) (H : Heap) (locs : List Loc) (ls : Array Slot), (True) → va_P (dC, dI) vwCl [(g0, .inr (1, [.int th, .ref b1, .ref b2, .ref b3, .ref b4, .ref b5, .ref b6, .ref b7, .ref b8, .int ob, .int co, .int tp])), (b1, .inl (e1, 301, .inl kd)), (b2, .inl (e2, 301, .inl zs)), (b3, .inl (e3, 301, .inl od)), (b4, .inl (e4, 12040, .inl lk)), (b5, .inl (e5, 12040, .inr (.inl nu))), (b6, .inl (e6, 301, .inl rb)), (b7, .inl (e7, 16, .inl rg)), (b8, .inl (e8, 301, .inl td))] H → va_D A [(g0, .inr (1, [.int th, .ref b1, .ref b2, .ref b3, .ref b4, .ref b5, .ref b6, .ref b7, .ref b8, .int ob, .int co, .int tp])), (b1, .inl (e1, 301, .inl kd)), (b2, .inl (e2, 301, .inl zs)), (b3, .inl (e3, 301, .inl od)), (b4, .inl (e4, 12040, .inl lk)), (b5, .inl (e5, 12040, .inr (.inl nu))), (b6, .inl (e6, 301, .inl rb)), (b7, .inl (e7, 16, .inl rg)), (b8, .inl (e8, 301, .inl td))] → va_S A s.heap H locs → lv_has ls 6 [(0, .ref g0), (1, .int (nI k)), (2, .int (nI n))] → W p l e (headSpec wsX1_made ({ frames := 2, cells := 0, slots := 0, locals := 50 })).room s m args below meth c H locs 0 0 Q9 (F0 m 12 ls [.int (nI (1 + n))]) := by
    intro z9 H locs ls hI hP hD hS hl
    refine lv_istore_n hx hb dX1_made_12 rfl hl (by decide) rfl (fun ls hl => ?_)
    have hl : lv_has ls 6 [(3, .int (nI (1 + n))), (0, .ref g0), (1, .int (nI k)), (2, .int (nI n))] := hl
    refine lv_aload_n hx hb dX1_made_13 rfl (lv_at hl 1 rfl) ?_
    refine W.callR (W.runV (As := []) (rest := []) ⟨hx, hb, hml, hown, hts⟩ (c_X1_cells l dC dI g0 b1 b2 b3 b4 b5 b6 b7 b8 e1 e2 e3 e4 e5 e6 e7 e8 th kd zs od lk nu rb rg td ob co tp _ M hW hQ) (cwV 0 hts gw_X1_57 rfl rfl rfl ⟨rfl, by decide, by decide, by decide +kernel⟩ ⟨Nat.le_of_ble_eq_true rfl, Nat.le_of_ble_eq_true rfl⟩) ⟨hw_blind, va_recv (q0 := 0) (ci := 1) (q := (RX1, TX1, 12)) hK hP rfl rfl, hw_pay hP hK hD⟩ rfl rfl hl.1 rfl (lv_room (Nat.le_of_ble_eq_true rfl)) dX1_made_14 ⟨by decide, by decide⟩) ?_
    refine W.eq (g2 := F0 m 17 ls [.int (nI (hp_tk M))]) rfl ?_
    refine lv_iload_n hx hb dX1_made_17 rfl (lv_at hl 0 rfl) ?_
    refine lv_iadd hx hb dX1_made_18 ?_
    refine hw_topi (y := nI (hp_tk M + (1 + n))) (nI_add _ _) ?_
    refine lv_sipush (v := 300) hx hb dX1_made_19 (by decide) ?_
    refine lv_icmp_le hx hb dX1_made_22 (tgt := 31) (by decide) (fun hc => ?_) (fun hc => ?_)
    · have hf : hp_tk M + (1 + n) ≤ 300 := (nI_leI (b := 300) (by omega) (by decide)).mp hc
      exact tail31 th kd zs od lk nu rb rg td ob co tp H locs ls (by rw [hp_rm_t hf]; exact hQ) hP hD hS (lv_sub hl [1, 2, 3, 0] rfl)
    · have hf : ¬ hp_tk M + (1 + n) ≤ 300 := fun h9 => hc ((nI_leI (b := 300) (by omega) (by decide)).mpr h9)
      refine lv_aload_n hx hb dX1_made_25 rfl (lv_at hl 1 rfl) ?_
      refine hw_calli (va_runV (As := []) (rest := []) ⟨hx, hb, hml, hown, hts⟩ (c_X1_collect l dC dI g0 b1 b2 b3 b4 b5 b6 b7 b8 e1 e2 e3 e4 e5 e6 e7 e8 th kd zs od lk nu rb rg td ob co tp _ M hW hQ) (cwV 0 hts gw_X1_61 rfl rfl rfl ⟨rfl, by decide, by decide, by decide +kernel⟩ ⟨Nat.le_of_ble_eq_true rfl, Nat.le_of_ble_eq_true rfl⟩) ⟨hw_blind, va_recv (q0 := 0) (ci := 1) (q := (RX1, TX1, 12)) hK hP rfl rfl, hw_pay hP hK hD⟩ rfl rfl hl.1 rfl (lv_room (Nat.le_of_ble_eq_true rfl)) dX1_made_26 ⟨by decide, by decide⟩) hD hS hA (fun r9 u9 H locs hw hP hD hS => ?_)
      obtain ⟨th, kd, od, lk, rb, td, ob, co, tp⟩ := u9
      have hP : va_P (dC, dI) vwCl [(g0, .inr (1, [.int th, .ref b1, .ref b2, .ref b3, .ref b4, .ref b5, .ref b6, .ref b7, .ref b8, .int ob, .int co, .int tp])), (b1, .inl (e1, 301, .inl kd)), (b2, .inl (e2, 301, .inl zs)), (b3, .inl (e3, 301, .inl od)), (b4, .inl (e4, 12040, .inl lk)), (b5, .inl (e5, 12040, .inr (.inl nu))), (b6, .inl (e6, 301, .inl rb)), (b7, .inl (e7, 16, .inl rg)), (b8, .inl (e8, 301, .inl td))] H := hP
      have hD : va_D A [(g0, .inr (1, [.int th, .ref b1, .ref b2, .ref b3, .ref b4, .ref b5, .ref b6, .ref b7, .ref b8, .int ob, .int co, .int tp])), (b1, .inl (e1, 301, .inl kd)), (b2, .inl (e2, 301, .inl zs)), (b3, .inl (e3, 301, .inl od)), (b4, .inl (e4, 12040, .inl lk)), (b5, .inl (e5, 12040, .inr (.inl nu))), (b6, .inl (e6, 301, .inl rb)), (b7, .inl (e7, 16, .inl rg)), (b8, .inl (e8, 301, .inl td))] := hD
      refine lv_istore hx hb dX1_made_29 hl (by decide) rfl (fun ls hl => ?_)
      have hl : lv_has ls 6 [(4, .int r9), (3, .int (nI (1 + n))), (0, .ref g0), (1, .int (nI k)), (2, .int (nI n))] := hl
      exact tail31 th kd zs od lk nu rb rg td ob co tp H locs ls (by rw [hp_rm_f hf]; exact hw.2.1) hP hD hS (lv_sub hl [2, 3, 4, 1] rfl)
  refine lv_iconst (v := 1) hx hb dX1_made_0 (by decide) ?_
  refine lv_iload_n hx hb dX1_made_1 rfl (lv_at hl 1 rfl) ?_
  refine lv_iconst (v := 3) hx hb dX1_made_2 (by decide) ?_
  refine lv_icmp_ne hx hb dX1_made_3 (tgt := 10) (by decide) (fun hc => ?_) (fun hc => ?_)
  · skip
    refine lv_iload_n hx hb dX1_made_10 rfl (lv_at hl 2 rfl) ?_
    refine lv_iadd hx hb dX1_made_11 ?_
    refine hw_topi (y := nI (1 + n)) (hp_1a n) ?_
    exact tail12 () H locs ls (trivial) hP hD hS (lv_sub hl [0, 1, 2] rfl)
  · have hk3 : k = 3 := (nI_eq (b := 3) (by omega) (by decide)).mp hc
    have hn1 := hw3 hk3
    refine lv_iconst (v := 1) hx hb dX1_made_6 (by decide) ?_
    refine lv_goto hx hb dX1_made_7 (tgt := 11) (by decide) ?_
    refine hw_topi (y := nI n) (by rw [hn1]; decide) ?_
    refine lv_iadd hx hb dX1_made_11 ?_
    refine hw_topi (y := nI (1 + n)) (hp_1a n) ?_
    exact tail12 () H locs ls (trivial) hP hD hS (lv_sub hl [0, 1, 2] rfl)

set_option maxHeartbeats 4000000 in
set_option maxRecDepth 100000 in
theorem c1_X1_made (l : Launch) (dC : Nat → ClassId) (dI : Nat → Nat → Nat) (g0 b1 b2 b3 b4 b5 b6 b7 b8 : Nat) (e1 e2 e3 e4 e5 e6 e7 e8 : ClassId) (th : Int32) (kd zs od lk : Nat → Int32) (nu : Nat → Int64) (rb rg td : Nat → Int32) (ob co tp : Int32) (sz : Nat) (M : hp_S) (hW : hp_W M) (hQ : hp_Q M kd zs od lk nu rg ob co) (k n : Nat) (hk1 : 1 ≤ k) (hk4 : k < 4) (hn : n ≤ 40) (hw3 : k = 3 → n = 1) (hfit : hp_tk (hp_rm M n) + (1 + n) ≤ 300) : Met l yX1_made wsX1_made ({ frames := 2, cells := 0, slots := 0, locals := 50 }) (va_Pc [.ref g0, .int (nI k), .int (nI n)] (hw_pre (dC, dI) vwCl [(e1, .int), (e2, .int), (e3, .int), (e4, .int), (e5, .long), (e6, .boolean), (e7, .int), (e8, .int)] [(g0, .inr (1, [.int th, .ref b1, .ref b2, .ref b3, .ref b4, .ref b5, .ref b6, .ref b7, .ref b8, .int ob, .int co, .int tp])), (b1, .inl (e1, 301, .inl kd)), (b2, .inl (e2, 301, .inl zs)), (b3, .inl (e3, 301, .inl od)), (b4, .inl (e4, 12040, .inl lk)), (b5, .inl (e5, 12040, .inr (.inl nu))), (b6, .inl (e6, 301, .inl rb)), (b7, .inl (e7, 16, .inl rg)), (b8, .inl (e8, 301, .inl td))] sz)) (va_Qi (fun (r : Int32) (u : Int32 × (Nat → Int32) × (Nat → Int32) × (Nat → Int32) × (Nat → Int32) × (Nat → Int64) × (Nat → Int32) × (Nat → Int32) × (Nat → Int32) × Int32 × Int32 × Int32) => ∃ o, 1 ≤ o ∧ o ≤ 300 ∧ o ∉ hp_L (hp_rm M n) ∧ r = nI o ∧ hp_Q (hp_mk (hp_rm M n) o k n) u.2.1 u.2.2.1 u.2.2.2.1 u.2.2.2.2.1 u.2.2.2.2.2.1 u.2.2.2.2.2.2.2.1 u.2.2.2.2.2.2.2.2.2.1 u.2.2.2.2.2.2.2.2.2.2.1) (fun u t => hw_B (dC, dI) vwCl [(e1, .int), (e2, .int), (e3, .int), (e4, .int), (e5, .long), (e6, .boolean), (e7, .int), (e8, .int)] (va_A [(g0, .inr (1, [.int th, .ref b1, .ref b2, .ref b3, .ref b4, .ref b5, .ref b6, .ref b7, .ref b8, .int ob, .int co, .int tp])), (b1, .inl (e1, 301, .inl kd)), (b2, .inl (e2, 301, .inl zs)), (b3, .inl (e3, 301, .inl od)), (b4, .inl (e4, 12040, .inl lk)), (b5, .inl (e5, 12040, .inr (.inl nu))), (b6, .inl (e6, 301, .inl rb)), (b7, .inl (e7, 16, .inl rg)), (b8, .inl (e8, 301, .inl td))] sz) ((fun u : Int32 × (Nat → Int32) × (Nat → Int32) × (Nat → Int32) × (Nat → Int32) × (Nat → Int64) × (Nat → Int32) × (Nat → Int32) × (Nat → Int32) × Int32 × Int32 × Int32 => [(g0, .inr (1, [.int u.1, .ref b1, .ref b2, .ref b3, .ref b4, .ref b5, .ref b6, .ref b7, .ref b8, .int u.2.2.2.2.2.2.2.2.2.1, .int u.2.2.2.2.2.2.2.2.2.2.1, .int u.2.2.2.2.2.2.2.2.2.2.2])), (b1, .inl (e1, 301, .inl u.2.1)), (b2, .inl (e2, 301, .inl u.2.2.1)), (b3, .inl (e3, 301, .inl u.2.2.2.1)), (b4, .inl (e4, 12040, .inl u.2.2.2.2.1)), (b5, .inl (e5, 12040, .inr (.inl u.2.2.2.2.2.1))), (b6, .inl (e6, 301, .inl u.2.2.2.2.2.2.1)), (b7, .inl (e7, 16, .inl u.2.2.2.2.2.2.2.1)), (b8, .inl (e8, 301, .inl u.2.2.2.2.2.2.2.2.1))]) u) t) (va_A [(g0, .inr (1, [.int th, .ref b1, .ref b2, .ref b3, .ref b4, .ref b5, .ref b6, .ref b7, .ref b8, .int ob, .int co, .int tp])), (b1, .inl (e1, 301, .inl kd)), (b2, .inl (e2, 301, .inl zs)), (b3, .inl (e3, 301, .inl od)), (b4, .inl (e4, 12040, .inl lk)), (b5, .inl (e5, 12040, .inr (.inl nu))), (b6, .inl (e6, 301, .inl rb)), (b7, .inl (e7, 16, .inl rg)), (b8, .inl (e8, 301, .inl td))] sz)) 0 0 (va_A [(g0, .inr (1, [.int th, .ref b1, .ref b2, .ref b3, .ref b4, .ref b5, .ref b6, .ref b7, .ref b8, .int ob, .int co, .int tp])), (b1, .inl (e1, 301, .inl kd)), (b2, .inl (e2, 301, .inl zs)), (b3, .inl (e3, 301, .inl od)), (b4, .inl (e4, 12040, .inl lk)), (b5, .inl (e5, 12040, .inr (.inl nu))), (b6, .inl (e6, 301, .inl rb)), (b7, .inl (e7, 16, .inl rg)), (b8, .inl (e8, 301, .inl td))] sz) := by
  refine Met.ofW (cc := cX1_made) (maxL := 6) (ret := some .int) (by decide) rfl ?_
  intro p e s m args below meth c s₁ B hml hv
  obtain ⟨hargs, hsz, hP, hK, hD0⟩ := hv
  have hx := B.exec
  have hb := B.bytes
  have hr := B.returns
  have hts : ∀ w ∈ wb, w.before _ s = true := fun w h => atoms_spec (ws := wsX1_made) B.pre w (List.mem_cons_of_mem _ h)
  have hown : s.vm.findClass RX1 = some m.cls := findClass_of_methodNamed B.named
  have hlocks := B.notSynchronized
  subst hsz
  have hD := hD0.self (sz := s.heap.size)
  generalize hAe : va_A [(g0, .inr (1, [.int th, .ref b1, .ref b2, .ref b3, .ref b4, .ref b5, .ref b6, .ref b7, .ref b8, .int ob, .int co, .int tp])), (b1, .inl (e1, 301, .inl kd)), (b2, .inl (e2, 301, .inl zs)), (b3, .inl (e3, 301, .inl od)), (b4, .inl (e4, 12040, .inl lk)), (b5, .inl (e5, 12040, .inr (.inl nu))), (b6, .inl (e6, 301, .inl rb)), (b7, .inl (e7, 16, .inl rg)), (b8, .inl (e8, 301, .inl td))] s.heap.size = A at hD ⊢
  have hA : ∀ q : Nat, s.heap.size ≤ q → A q := fun q h => by rw [← hAe]; exact Or.inr h
  have hS : va_S A s.heap s.heap [] := va_S.rf
  generalize hQ9 : MQ below (va_Qi (fun (r : Int32) (u : Int32 × (Nat → Int32) × (Nat → Int32) × (Nat → Int32) × (Nat → Int32) × (Nat → Int64) × (Nat → Int32) × (Nat → Int32) × (Nat → Int32) × Int32 × Int32 × Int32) => ∃ o, 1 ≤ o ∧ o ≤ 300 ∧ o ∉ hp_L (hp_rm M n) ∧ r = nI o ∧ hp_Q (hp_mk (hp_rm M n) o k n) u.2.1 u.2.2.1 u.2.2.2.1 u.2.2.2.2.1 u.2.2.2.2.2.1 u.2.2.2.2.2.2.2.1 u.2.2.2.2.2.2.2.2.2.1 u.2.2.2.2.2.2.2.2.2.2.1) (fun u t => hw_B (dC, dI) vwCl [(e1, .int), (e2, .int), (e3, .int), (e4, .int), (e5, .long), (e6, .boolean), (e7, .int), (e8, .int)] A ((fun u : Int32 × (Nat → Int32) × (Nat → Int32) × (Nat → Int32) × (Nat → Int32) × (Nat → Int64) × (Nat → Int32) × (Nat → Int32) × (Nat → Int32) × Int32 × Int32 × Int32 => [(g0, .inr (1, [.int u.1, .ref b1, .ref b2, .ref b3, .ref b4, .ref b5, .ref b6, .ref b7, .ref b8, .int u.2.2.2.2.2.2.2.2.2.1, .int u.2.2.2.2.2.2.2.2.2.2.1, .int u.2.2.2.2.2.2.2.2.2.2.2])), (b1, .inl (e1, 301, .inl u.2.1)), (b2, .inl (e2, 301, .inl u.2.2.1)), (b3, .inl (e3, 301, .inl u.2.2.2.1)), (b4, .inl (e4, 12040, .inl u.2.2.2.2.1)), (b5, .inl (e5, 12040, .inr (.inl u.2.2.2.2.2.1))), (b6, .inl (e6, 301, .inl u.2.2.2.2.2.2.1)), (b7, .inl (e7, 16, .inl u.2.2.2.2.2.2.2.1)), (b8, .inl (e8, 301, .inl u.2.2.2.2.2.2.2.2.1))]) u) t) A) args s 0 0 A = Q9
  have hl := lv_entry ([.ref g0, .int (nI k), .int (nI n)]) (n := 6) (Nat.le_of_ble_eq_true rfl)
  rw [show entryFrame m args 6 = _ from (congrArg (fun z => entryFrame m z 6) hargs).trans (lg_entry_eq m [.ref g0, .int (nI k), .int (nI n)] 6)]
  generalize (lg_sl ([.ref g0, .int (nI k), .int (nI n)]) ++ List.replicate (6 - (lg_sl ([.ref g0, .int (nI k), .int (nI n)])).length) Slot.unset).toArray = ls at hl ⊢
  have hl : lv_has ls 6 [(0, .ref g0), (1, .int (nI k)), (2, .int (nI n))] := hl
  obtain ⟨H, hH⟩ : ∃ H, H = s.heap := ⟨_, rfl⟩
  rw [← hH] at hP
  have hS : va_S A s.heap H [] := by rw [hH]; exact hS
  rw [← hH]
  generalize ([] : List Loc) = locs at hS ⊢
  have hW1 := hp_rm_W hW n
  have hT := hW.2.2.2.2.2
  have hT1 := hW1.2.2.2.2.2
  have hL1 := hp_len (hp_z (hp_rm M n)) (hp_L (hp_rm M n))
  have tail31 : ∀ (th : Int32) (kd : Nat → Int32) (zs : Nat → Int32) (od : Nat → Int32) (lk : Nat → Int32) (nu : Nat → Int64) (rb : Nat → Int32) (rg : Nat → Int32) (td : Nat → Int32) (ob : Int32) (co : Int32) (tp : Int32) (H : Heap) (locs : List Loc) (ls : Array Slot), (hp_Q (hp_rm M n) kd zs od lk nu rg ob co) → va_P (dC, dI) vwCl [(g0, .inr (1, [.int th, .ref b1, .ref b2, .ref b3, .ref b4, .ref b5, .ref b6, .ref b7, .ref b8, .int ob, .int co, .int tp])), (b1, .inl (e1, 301, .inl kd)), (b2, .inl (e2, 301, .inl zs)), (b3, .inl (e3, 301, .inl od)), (b4, .inl (e4, 12040, .inl lk)), (b5, .inl (e5, 12040, .inr (.inl nu))), (b6, .inl (e6, 301, .inl rb)), (b7, .inl (e7, 16, .inl rg)), (b8, .inl (e8, 301, .inl td))] H → va_D A [(g0, .inr (1, [.int th, .ref b1, .ref b2, .ref b3, .ref b4, .ref b5, .ref b6, .ref b7, .ref b8, .int ob, .int co, .int tp])), (b1, .inl (e1, 301, .inl kd)), (b2, .inl (e2, 301, .inl zs)), (b3, .inl (e3, 301, .inl od)), (b4, .inl (e4, 12040, .inl lk)), (b5, .inl (e5, 12040, .inr (.inl nu))), (b6, .inl (e6, 301, .inl rb)), (b7, .inl (e7, 16, .inl rg)), (b8, .inl (e8, 301, .inl td))] → va_S A s.heap H locs → lv_has ls 6 [(0, .ref g0), (1, .int (nI k)), (2, .int (nI n)), (3, .int (nI (1 + n)))] → W p l e (headSpec wsX1_made ({ frames := 2, cells := 0, slots := 0, locals := 50 })).room s m args below meth c H locs 0 0 Q9 (F0 m 31 ls []) := by
    intro th kd zs od lk nu rb rg td ob co tp H locs ls hI hP hD hS hl
    refine lv_aload_n hx hb dX1_made_31 rfl (lv_at hl 0 rfl) ?_
    refine W.callR (W.runV (As := []) (rest := []) ⟨hx, hb, hml, hown, hts⟩ (c_X1_cells l dC dI g0 b1 b2 b3 b4 b5 b6 b7 b8 e1 e2 e3 e4 e5 e6 e7 e8 th kd zs od lk nu rb rg td ob co tp _ (hp_rm M n) hW1 hI) (cwV 0 hts gw_X1_57 rfl rfl rfl ⟨rfl, by decide, by decide, by decide +kernel⟩ ⟨Nat.le_of_ble_eq_true rfl, Nat.le_of_ble_eq_true rfl⟩) ⟨hw_blind, va_recv (q0 := 0) (ci := 1) (q := (RX1, TX1, 12)) hK hP rfl rfl, hw_pay hP hK hD⟩ rfl rfl hl.1 rfl (lv_room (Nat.le_of_ble_eq_true rfl)) dX1_made_32 ⟨by decide, by decide⟩) ?_
    refine W.eq (g2 := F0 m 35 ls [.int (nI (hp_tk (hp_rm M n)))]) rfl ?_
    refine lv_iload_n hx hb dX1_made_35 rfl (lv_at hl 3 rfl) ?_
    refine lv_iadd hx hb dX1_made_36 ?_
    refine hw_topi (y := nI (hp_tk (hp_rm M n) + (1 + n))) (nI_add _ _) ?_
    refine lv_sipush (v := 300) hx hb dX1_made_37 (by decide) ?_
    refine lv_icmp_le hx hb dX1_made_40 (tgt := 45) (by decide) (fun hc => ?_) (fun hc => ?_)
    · have hQ1 := hI
      refine lv_iconst (v := 1) hx hb dX1_made_45 (by decide) ?_
      refine hw_topi (y := nI 1) (by decide) ?_
      refine lv_istore hx hb dX1_made_46 hl (by decide) rfl (fun ls hl => ?_)
      have hl : lv_has ls 6 [(4, .int (nI 1)), (0, .ref g0), (1, .int (nI k)), (2, .int (nI n)), (3, .int (nI (1 + n)))] := hl
      have loopF : ∀ (n9 : Nat) (o : Nat) (H : Heap) (locs : List Loc) (ls : Array Slot), 301 - o < n9 → (1 ≤ o ∧ o ≤ 300 ∧ ∀ x, 1 ≤ x → x < o → x ∈ hp_L (hp_rm M n)) → va_P (dC, dI) vwCl [(g0, .inr (1, [.int th, .ref b1, .ref b2, .ref b3, .ref b4, .ref b5, .ref b6, .ref b7, .ref b8, .int ob, .int co, .int tp])), (b1, .inl (e1, 301, .inl kd)), (b2, .inl (e2, 301, .inl zs)), (b3, .inl (e3, 301, .inl od)), (b4, .inl (e4, 12040, .inl lk)), (b5, .inl (e5, 12040, .inr (.inl nu))), (b6, .inl (e6, 301, .inl rb)), (b7, .inl (e7, 16, .inl rg)), (b8, .inl (e8, 301, .inl td))] H → va_D A [(g0, .inr (1, [.int th, .ref b1, .ref b2, .ref b3, .ref b4, .ref b5, .ref b6, .ref b7, .ref b8, .int ob, .int co, .int tp])), (b1, .inl (e1, 301, .inl kd)), (b2, .inl (e2, 301, .inl zs)), (b3, .inl (e3, 301, .inl od)), (b4, .inl (e4, 12040, .inl lk)), (b5, .inl (e5, 12040, .inr (.inl nu))), (b6, .inl (e6, 301, .inl rb)), (b7, .inl (e7, 16, .inl rg)), (b8, .inl (e8, 301, .inl td))] → va_S A s.heap H locs → lv_has ls 6 [(4, .int (nI o)), (0, .ref g0), (1, .int (nI k)), (2, .int (nI n)), (3, .int (nI (1 + n)))] → W p l e (headSpec wsX1_made ({ frames := 2, cells := 0, slots := 0, locals := 50 })).room s m args below meth c H locs 0 0 Q9 (F0 m 48 ls []) := by
        intro n9
        induction n9 with
        | zero => intro o H locs ls hm; exact absurd hm (Nat.not_lt_zero _)
        | succ n9 ihF =>
          intro o H locs ls hm hI hP hD hS hl
          refine lv_aload_n hx hb dX1_made_48 rfl (lv_at hl 1 rfl) ?_
          refine va_get (D := (dC, dI)) (ci := 1) (v := .ref b1) (C := RX1) (T := TX1) (N := 12) hx hb hts inX1 hown hK hP 0 rfl rfl 1 (by decide) (hts _ bw_fl_X1_7) (fun _ h9 => h9) rfl dX1_made_49 ?_
          refine lv_iload hx hb dX1_made_52 (lv_at hl 0 rfl) ?_
          refine hw_iald (j := o) hx hb hK hP 1 0 rfl rfl (rfl) (by omega) (by decide) dX1_made_54 ?_
          refine hw_topi (y := nI (hp_k (hp_rm M n) o)) (hQ1.2.2.2.1 o hI.2.1) ?_
          refine lv_if_eq hx hb dX1_made_55 (tgt := 64) (by decide) (fun hc => ?_) (fun hc => ?_)
          · have hnL : o ∉ hp_L (hp_rm M n) := (hp_kI hW1).mp hc
            have hIF := hI
            refine lv_aload_n hx hb dX1_made_64 rfl (lv_at hl 1 rfl) ?_
            refine va_get (D := (dC, dI)) (ci := 1) (v := .ref b1) (C := RX1) (T := TX1) (N := 12) hx hb hts inX1 hown hK hP 0 rfl rfl 1 (by decide) (hts _ bw_fl_X1_7) (fun _ h9 => h9) rfl dX1_made_65 ?_
            refine lv_iload hx hb dX1_made_68 (lv_at hl 0 rfl) ?_
            refine lv_iload_n hx hb dX1_made_70 rfl (lv_at hl 2 rfl) ?_
            refine hw_iast (j := o) hx hb hK hP hD hS 1 0 rfl rfl (rfl) (by omega) (by decide) dX1_made_71 (fun H locs hP hD hS => ?_)
            have hP : va_P (dC, dI) vwCl [(g0, .inr (1, [.int th, .ref b1, .ref b2, .ref b3, .ref b4, .ref b5, .ref b6, .ref b7, .ref b8, .int ob, .int co, .int tp])), (b1, .inl (e1, 301, .inl (upd kd o (nI k)))), (b2, .inl (e2, 301, .inl zs)), (b3, .inl (e3, 301, .inl od)), (b4, .inl (e4, 12040, .inl lk)), (b5, .inl (e5, 12040, .inr (.inl nu))), (b6, .inl (e6, 301, .inl rb)), (b7, .inl (e7, 16, .inl rg)), (b8, .inl (e8, 301, .inl td))] H := hP
            have hD : va_D A [(g0, .inr (1, [.int th, .ref b1, .ref b2, .ref b3, .ref b4, .ref b5, .ref b6, .ref b7, .ref b8, .int ob, .int co, .int tp])), (b1, .inl (e1, 301, .inl (upd kd o (nI k)))), (b2, .inl (e2, 301, .inl zs)), (b3, .inl (e3, 301, .inl od)), (b4, .inl (e4, 12040, .inl lk)), (b5, .inl (e5, 12040, .inr (.inl nu))), (b6, .inl (e6, 301, .inl rb)), (b7, .inl (e7, 16, .inl rg)), (b8, .inl (e8, 301, .inl td))] := hD
            refine lv_aload_n hx hb dX1_made_72 rfl (lv_at hl 1 rfl) ?_
            refine va_get (D := (dC, dI)) (ci := 1) (v := .ref b2) (C := RX1) (T := TX1) (N := 12) hx hb hts inX1 hown hK hP 0 rfl rfl 2 (by decide) (hts _ bw_fl_X1_13) (fun _ h9 => h9) rfl dX1_made_73 ?_
            refine lv_iload hx hb dX1_made_76 (lv_at hl 0 rfl) ?_
            refine lv_iload_n hx hb dX1_made_78 rfl (lv_at hl 3 rfl) ?_
            refine hw_iast (j := o) hx hb hK hP hD hS 2 1 rfl rfl (rfl) (by omega) (by decide) dX1_made_79 (fun H locs hP hD hS => ?_)
            have hP : va_P (dC, dI) vwCl [(g0, .inr (1, [.int th, .ref b1, .ref b2, .ref b3, .ref b4, .ref b5, .ref b6, .ref b7, .ref b8, .int ob, .int co, .int tp])), (b1, .inl (e1, 301, .inl (upd kd o (nI k)))), (b2, .inl (e2, 301, .inl (upd zs o (nI n)))), (b3, .inl (e3, 301, .inl od)), (b4, .inl (e4, 12040, .inl lk)), (b5, .inl (e5, 12040, .inr (.inl nu))), (b6, .inl (e6, 301, .inl rb)), (b7, .inl (e7, 16, .inl rg)), (b8, .inl (e8, 301, .inl td))] H := hP
            have hD : va_D A [(g0, .inr (1, [.int th, .ref b1, .ref b2, .ref b3, .ref b4, .ref b5, .ref b6, .ref b7, .ref b8, .int ob, .int co, .int tp])), (b1, .inl (e1, 301, .inl (upd kd o (nI k)))), (b2, .inl (e2, 301, .inl (upd zs o (nI n)))), (b3, .inl (e3, 301, .inl od)), (b4, .inl (e4, 12040, .inl lk)), (b5, .inl (e5, 12040, .inr (.inl nu))), (b6, .inl (e6, 301, .inl rb)), (b7, .inl (e7, 16, .inl rg)), (b8, .inl (e8, 301, .inl td))] := hD
            refine lv_iconst (v := 0) hx hb dX1_made_80 (by decide) ?_
            refine hw_topi (y := nI 0) (nI_0.symm) ?_
            refine lv_istore hx hb dX1_made_81 hl (by decide) rfl (fun ls hl => ?_)
            have hl : lv_has ls 6 [(5, .int (nI 0)), (4, .int (nI o)), (0, .ref g0), (1, .int (nI k)), (2, .int (nI n)), (3, .int (nI (1 + n)))] := hl
            have loopG : ∀ (n7 : Nat) (i : Nat) (lk2 : Nat → Int32) (nu2 : Nat → Int64) (H : Heap) (locs : List Loc) (ls : Array Slot), 40 - i < n7 → (i ≤ 40 ∧ (∀ q, q < i → lk2 (40 * o + q) = 0) ∧ (∀ a q, a ≠ o → q < 40 → lk2 (40 * a + q) = lk (40 * a + q)) ∧ (∀ q, q < i → nu2 (40 * o + q) = 0) ∧ (∀ a q, a ≠ o → q < 40 → nu2 (40 * a + q) = nu (40 * a + q))) → va_P (dC, dI) vwCl [(g0, .inr (1, [.int th, .ref b1, .ref b2, .ref b3, .ref b4, .ref b5, .ref b6, .ref b7, .ref b8, .int ob, .int co, .int tp])), (b1, .inl (e1, 301, .inl (upd kd o (nI k)))), (b2, .inl (e2, 301, .inl (upd zs o (nI n)))), (b3, .inl (e3, 301, .inl od)), (b4, .inl (e4, 12040, .inl lk2)), (b5, .inl (e5, 12040, .inr (.inl nu2))), (b6, .inl (e6, 301, .inl rb)), (b7, .inl (e7, 16, .inl rg)), (b8, .inl (e8, 301, .inl td))] H → va_D A [(g0, .inr (1, [.int th, .ref b1, .ref b2, .ref b3, .ref b4, .ref b5, .ref b6, .ref b7, .ref b8, .int ob, .int co, .int tp])), (b1, .inl (e1, 301, .inl (upd kd o (nI k)))), (b2, .inl (e2, 301, .inl (upd zs o (nI n)))), (b3, .inl (e3, 301, .inl od)), (b4, .inl (e4, 12040, .inl lk2)), (b5, .inl (e5, 12040, .inr (.inl nu2))), (b6, .inl (e6, 301, .inl rb)), (b7, .inl (e7, 16, .inl rg)), (b8, .inl (e8, 301, .inl td))] → va_S A s.heap H locs → lv_has ls 6 [(5, .int (nI i)), (4, .int (nI o)), (0, .ref g0), (1, .int (nI k)), (2, .int (nI n)), (3, .int (nI (1 + n)))] → W p l e (headSpec wsX1_made ({ frames := 2, cells := 0, slots := 0, locals := 50 })).room s m args below meth c H locs 0 0 Q9 (F0 m 83 ls []) := by
              intro n7
              induction n7 with
              | zero => intro i lk2 nu2 H locs ls hm; exact absurd hm (Nat.not_lt_zero _)
              | succ n7 ihG =>
                intro i lk2 nu2 H locs ls hm hI hP hD hS hl
                refine lv_iload hx hb dX1_made_83 (lv_at hl 0 rfl) ?_
                refine lv_bipush (v := 40) hx hb dX1_made_85 (by decide) ?_
                refine lv_icmp_ge hx hb dX1_made_87 (tgt := 124) (by decide) (fun hc => ?_) (fun hc => ?_)
                · have hi : i = 40 := by
                    have h1 := (nI_leI (a := 40) (by decide) (by omega)).mp hc
                    omega
                  subst hi
                  have hnew := hp_mk_Q (k := k) (n := n) hQ1 hW1 hnL hn hI.2.1 hI.2.2.1 hI.2.2.2.1 hI.2.2.2.2
                  have hL3 : (hp_L (hp_rm M n)).length < 300 := by have h7 : hp_tk (hp_rm M n) = hp_t (hp_z (hp_rm M n)) (hp_L (hp_rm M n)) := rfl; omega
                  refine lv_aload_n hx hb dX1_made_124 rfl (lv_at hl 2 rfl) ?_
                  refine va_get (D := (dC, dI)) (ci := 1) (v := .ref b3) (C := RX1) (T := TX1) (N := 12) hx hb hts inX1 hown hK hP 0 rfl rfl 3 (by decide) (hts _ bw_fl_X1_16) (fun _ h9 => h9) rfl dX1_made_125 ?_
                  refine lv_aload_n hx hb dX1_made_128 rfl (lv_at hl 2 rfl) ?_
                  refine va_get (D := (dC, dI)) (ci := 1) (v := .int ob) (C := RX1) (T := TX1) (N := 12) hx hb hts inX1 hown hK hP 0 rfl rfl 9 (by decide) (hts _ bw_fl_X1_40) (fun _ h9 => h9) rfl dX1_made_129 ?_
                  refine lv_iload hx hb dX1_made_132 (lv_at hl 1 rfl) ?_
                  refine hw_iast (j := (hp_L (hp_rm M n)).length) hx hb hK hP hD hS 3 2 rfl rfl (hQ1.1) (by omega) (by decide) dX1_made_134 (fun H locs hP hD hS => ?_)
                  have hP : va_P (dC, dI) vwCl [(g0, .inr (1, [.int th, .ref b1, .ref b2, .ref b3, .ref b4, .ref b5, .ref b6, .ref b7, .ref b8, .int ob, .int co, .int tp])), (b1, .inl (e1, 301, .inl (upd kd o (nI k)))), (b2, .inl (e2, 301, .inl (upd zs o (nI n)))), (b3, .inl (e3, 301, .inl (upd od ((hp_L (hp_rm M n)).length) (nI o)))), (b4, .inl (e4, 12040, .inl lk2)), (b5, .inl (e5, 12040, .inr (.inl nu2))), (b6, .inl (e6, 301, .inl rb)), (b7, .inl (e7, 16, .inl rg)), (b8, .inl (e8, 301, .inl td))] H := hP
                  have hD : va_D A [(g0, .inr (1, [.int th, .ref b1, .ref b2, .ref b3, .ref b4, .ref b5, .ref b6, .ref b7, .ref b8, .int ob, .int co, .int tp])), (b1, .inl (e1, 301, .inl (upd kd o (nI k)))), (b2, .inl (e2, 301, .inl (upd zs o (nI n)))), (b3, .inl (e3, 301, .inl (upd od ((hp_L (hp_rm M n)).length) (nI o)))), (b4, .inl (e4, 12040, .inl lk2)), (b5, .inl (e5, 12040, .inr (.inl nu2))), (b6, .inl (e6, 301, .inl rb)), (b7, .inl (e7, 16, .inl rg)), (b8, .inl (e8, 301, .inl td))] := hD
                  refine lv_aload_n hx hb dX1_made_135 rfl (lv_at hl 2 rfl) ?_
                  refine lv_dup hx hb dX1_made_136 rfl ?_
                  refine va_get (D := (dC, dI)) (ci := 1) (v := .int ob) (C := RX1) (T := TX1) (N := 12) hx hb hts inX1 hown hK hP 0 rfl rfl 9 (by decide) (hts _ bw_fl_X1_40) (fun _ h9 => h9) rfl dX1_made_137 ?_
                  refine lv_iconst (v := 1) hx hb dX1_made_140 (by decide) ?_
                  refine lv_iadd hx hb dX1_made_141 ?_
                  refine hw_topi (y := nI ((hp_L (hp_rm M n)).length + 1)) (by rw [hQ1.1]; exact nI_1 _) ?_
                  refine va_put (D := (dC, dI)) (ci := 1) (v := .int (nI ((hp_L (hp_rm M n)).length + 1))) (ty := .int) (C := RX1) (T := TX1) (N := 12) hx hb hts inX1 tyX1 tyX1_ok nmX1 hown hK hP hD hS 0 rfl rfl 9 (by decide) (hts _ bw_fl_X1_40) (fun _ h9 => h9) rfl (by decide +kernel) rfl rfl (Nat.le_of_ble_eq_true rfl) dX1_made_142 (fun H locs hP hD hS => ?_)
                  have hP : va_P (dC, dI) vwCl [(g0, .inr (1, [.int th, .ref b1, .ref b2, .ref b3, .ref b4, .ref b5, .ref b6, .ref b7, .ref b8, .int (nI ((hp_L (hp_rm M n)).length + 1)), .int co, .int tp])), (b1, .inl (e1, 301, .inl (upd kd o (nI k)))), (b2, .inl (e2, 301, .inl (upd zs o (nI n)))), (b3, .inl (e3, 301, .inl (upd od ((hp_L (hp_rm M n)).length) (nI o)))), (b4, .inl (e4, 12040, .inl lk2)), (b5, .inl (e5, 12040, .inr (.inl nu2))), (b6, .inl (e6, 301, .inl rb)), (b7, .inl (e7, 16, .inl rg)), (b8, .inl (e8, 301, .inl td))] H := hP
                  have hD : va_D A [(g0, .inr (1, [.int th, .ref b1, .ref b2, .ref b3, .ref b4, .ref b5, .ref b6, .ref b7, .ref b8, .int (nI ((hp_L (hp_rm M n)).length + 1)), .int co, .int tp])), (b1, .inl (e1, 301, .inl (upd kd o (nI k)))), (b2, .inl (e2, 301, .inl (upd zs o (nI n)))), (b3, .inl (e3, 301, .inl (upd od ((hp_L (hp_rm M n)).length) (nI o)))), (b4, .inl (e4, 12040, .inl lk2)), (b5, .inl (e5, 12040, .inr (.inl nu2))), (b6, .inl (e6, 301, .inl rb)), (b7, .inl (e7, 16, .inl rg)), (b8, .inl (e8, 301, .inl td))] := hD
                  refine lv_iload hx hb dX1_made_145 (lv_at hl 1 rfl) ?_
                  subst hQ9
                  exact W.iret (v := nI o) hx hb hr (fun t ht hWm => ⟨⟨nI o, (th, (upd kd o (nI k)), (upd zs o (nI n)), (upd od ((hp_L (hp_rm M n)).length) (nI o)), lk2, nu2, rb, rg, td, (nI ((hp_L (hp_rm M n)).length + 1)), co, tp), rfl, ⟨o, hIF.1, hIF.2.1, hnL, rfl, hnew⟩, by rw [ht]; exact hP, va_K.moved hWm.alike hK, hD⟩, hS.F ht⟩) hS.2.2 dX1_made_147
                · have hi : i < 40 := Nat.lt_of_not_le (fun h9 => hc ((nI_leI (a := 40) (by decide) (by omega)).mpr h9))
                  refine lv_aload_n hx hb dX1_made_90 rfl (lv_at hl 2 rfl) ?_
                  refine va_get (D := (dC, dI)) (ci := 1) (v := .ref b4) (C := RX1) (T := TX1) (N := 12) hx hb hts inX1 hown hK hP 0 rfl rfl 4 (by decide) (hts _ bw_fl_X1_19) (fun _ h9 => h9) rfl dX1_made_91 ?_
                  refine lv_bipush (v := 40) hx hb dX1_made_94 (by decide) ?_
                  refine lv_iload hx hb dX1_made_96 (lv_at hl 1 rfl) ?_
                  refine lv_imul hx hb dX1_made_98 ?_
                  refine lv_iload hx hb dX1_made_99 (lv_at hl 0 rfl) ?_
                  refine lv_iadd hx hb dX1_made_101 ?_
                  refine lv_iconst (v := 0) hx hb dX1_made_102 (by decide) ?_
                  refine hw_iast (j := 40 * o + i) hx hb hK hP hD hS 4 3 rfl rfl (hp_40i o i) (by omega) (by decide) dX1_made_103 (fun H locs hP hD hS => ?_)
                  have hP : va_P (dC, dI) vwCl [(g0, .inr (1, [.int th, .ref b1, .ref b2, .ref b3, .ref b4, .ref b5, .ref b6, .ref b7, .ref b8, .int ob, .int co, .int tp])), (b1, .inl (e1, 301, .inl (upd kd o (nI k)))), (b2, .inl (e2, 301, .inl (upd zs o (nI n)))), (b3, .inl (e3, 301, .inl od)), (b4, .inl (e4, 12040, .inl (upd lk2 (40 * o + i) 0))), (b5, .inl (e5, 12040, .inr (.inl nu2))), (b6, .inl (e6, 301, .inl rb)), (b7, .inl (e7, 16, .inl rg)), (b8, .inl (e8, 301, .inl td))] H := hP
                  have hD : va_D A [(g0, .inr (1, [.int th, .ref b1, .ref b2, .ref b3, .ref b4, .ref b5, .ref b6, .ref b7, .ref b8, .int ob, .int co, .int tp])), (b1, .inl (e1, 301, .inl (upd kd o (nI k)))), (b2, .inl (e2, 301, .inl (upd zs o (nI n)))), (b3, .inl (e3, 301, .inl od)), (b4, .inl (e4, 12040, .inl (upd lk2 (40 * o + i) 0))), (b5, .inl (e5, 12040, .inr (.inl nu2))), (b6, .inl (e6, 301, .inl rb)), (b7, .inl (e7, 16, .inl rg)), (b8, .inl (e8, 301, .inl td))] := hD
                  refine lv_aload_n hx hb dX1_made_104 rfl (lv_at hl 2 rfl) ?_
                  refine va_get (D := (dC, dI)) (ci := 1) (v := .ref b5) (C := RX1) (T := TX1) (N := 12) hx hb hts inX1 hown hK hP 0 rfl rfl 5 (by decide) (hts _ bw_fl_X1_22) (fun _ h9 => h9) rfl dX1_made_105 ?_
                  refine lv_bipush (v := 40) hx hb dX1_made_108 (by decide) ?_
                  refine lv_iload hx hb dX1_made_110 (lv_at hl 1 rfl) ?_
                  refine lv_imul hx hb dX1_made_112 ?_
                  refine lv_iload hx hb dX1_made_113 (lv_at hl 0 rfl) ?_
                  refine lv_iadd hx hb dX1_made_115 ?_
                  refine lv_lconst (v := 0) hx hb dX1_made_116 (by decide) ?_
                  refine hw_last (j := 40 * o + i) hx hb hK hP hD hS 5 4 rfl rfl (hp_40i o i) (by omega) (by decide) dX1_made_117 (fun H locs hP hD hS => ?_)
                  have hP : va_P (dC, dI) vwCl [(g0, .inr (1, [.int th, .ref b1, .ref b2, .ref b3, .ref b4, .ref b5, .ref b6, .ref b7, .ref b8, .int ob, .int co, .int tp])), (b1, .inl (e1, 301, .inl (upd kd o (nI k)))), (b2, .inl (e2, 301, .inl (upd zs o (nI n)))), (b3, .inl (e3, 301, .inl od)), (b4, .inl (e4, 12040, .inl (upd lk2 (40 * o + i) 0))), (b5, .inl (e5, 12040, .inr (.inl (vp_updL nu2 (40 * o + i) 0)))), (b6, .inl (e6, 301, .inl rb)), (b7, .inl (e7, 16, .inl rg)), (b8, .inl (e8, 301, .inl td))] H := hP
                  have hD : va_D A [(g0, .inr (1, [.int th, .ref b1, .ref b2, .ref b3, .ref b4, .ref b5, .ref b6, .ref b7, .ref b8, .int ob, .int co, .int tp])), (b1, .inl (e1, 301, .inl (upd kd o (nI k)))), (b2, .inl (e2, 301, .inl (upd zs o (nI n)))), (b3, .inl (e3, 301, .inl od)), (b4, .inl (e4, 12040, .inl (upd lk2 (40 * o + i) 0))), (b5, .inl (e5, 12040, .inr (.inl (vp_updL nu2 (40 * o + i) 0)))), (b6, .inl (e6, 301, .inl rb)), (b7, .inl (e7, 16, .inl rg)), (b8, .inl (e8, 301, .inl td))] := hD
                  refine lv_iinc (k := 0) (v := nI (i + 1)) hx hb dX1_made_118 hl rfl (nI_1 i) (by decide) rfl (fun ls hl => ?_)
                  have hl : lv_has ls 6 [(5, .int (nI (i + 1))), (4, .int (nI o)), (0, .ref g0), (1, .int (nI k)), (2, .int (nI n)), (3, .int (nI (1 + n)))] := hl
                  refine lv_goto hx hb dX1_made_121 (tgt := 83) (by decide) ?_
                  exact ihG (i + 1) (upd lk2 (40 * o + i) 0) (vp_updL nu2 (40 * o + i) 0) H locs ls (by omega) (⟨hi, fun q hq => by
                      by_cases e9 : q = i
                      · subst e9; exact pk_us
                      · rw [pk_un (by omega)]; exact hI.2.1 q (by omega), fun a q ha hq => by rw [pk_un (by omega)]; exact hI.2.2.1 a q ha hq, fun q hq => by
                      by_cases e9 : q = i
                      · subst e9; exact pk_uLs
                      · rw [pk_uLn (by omega)]; exact hI.2.2.2.1 q (by omega), fun a q ha hq => by rw [pk_uLn (by omega)]; exact hI.2.2.2.2 a q ha hq⟩) hP hD hS (lv_sub hl [0, 1, 2, 3, 4, 5] rfl)
            exact loopG _ 0 lk nu H locs ls (Nat.lt_succ_self _) (⟨Nat.zero_le _, fun q h9 => absurd h9 (Nat.not_lt_zero _), fun _ _ _ _ => rfl, fun q h9 => absurd h9 (Nat.not_lt_zero _), fun _ _ _ _ => rfl⟩) hP hD hS (lv_sub hl [0, 1, 2, 3, 4, 5] rfl)
          · have hoL : o ∈ hp_L (hp_rm M n) := Classical.byContradiction fun h9 => hc ((hp_kI hW1).mpr h9)
            have hnx := hp_find hW1 (by have h7 : hp_tk (hp_rm M n) = hp_t (hp_z (hp_rm M n)) (hp_L (hp_rm M n)) := rfl; omega) hI.2.2 hoL
            refine lv_iinc (k := 0) (v := nI (o + 1)) hx hb dX1_made_58 hl rfl (nI_1 o) (by decide) rfl (fun ls hl => ?_)
            have hl : lv_has ls 6 [(4, .int (nI (o + 1))), (0, .ref g0), (1, .int (nI k)), (2, .int (nI n)), (3, .int (nI (1 + n)))] := hl
            refine lv_goto hx hb dX1_made_61 (tgt := 48) (by decide) ?_
            exact ihF (o + 1) H locs ls (by omega) (⟨by omega, hnx, fun x h1 h2 => (Classical.em (x = o)).elim (fun h9 => h9 ▸ hoL) (fun h9 => hI.2.2 x h1 (by omega))⟩) hP hD hS (lv_sub hl [0, 1, 2, 3, 4] rfl)
      exact loopF _ 1 H locs ls (Nat.lt_succ_self _) (⟨by omega, by omega, fun x h1 h2 => by omega⟩) hP hD hS (lv_sub hl [0, 1, 2, 3, 4] rfl)
    · exact absurd ((nI_leI (b := 300) (by omega) (by decide)).mpr hfit) hc
  have tail12 : ∀ (z9 : Unit) (H : Heap) (locs : List Loc) (ls : Array Slot), (True) → va_P (dC, dI) vwCl [(g0, .inr (1, [.int th, .ref b1, .ref b2, .ref b3, .ref b4, .ref b5, .ref b6, .ref b7, .ref b8, .int ob, .int co, .int tp])), (b1, .inl (e1, 301, .inl kd)), (b2, .inl (e2, 301, .inl zs)), (b3, .inl (e3, 301, .inl od)), (b4, .inl (e4, 12040, .inl lk)), (b5, .inl (e5, 12040, .inr (.inl nu))), (b6, .inl (e6, 301, .inl rb)), (b7, .inl (e7, 16, .inl rg)), (b8, .inl (e8, 301, .inl td))] H → va_D A [(g0, .inr (1, [.int th, .ref b1, .ref b2, .ref b3, .ref b4, .ref b5, .ref b6, .ref b7, .ref b8, .int ob, .int co, .int tp])), (b1, .inl (e1, 301, .inl kd)), (b2, .inl (e2, 301, .inl zs)), (b3, .inl (e3, 301, .inl od)), (b4, .inl (e4, 12040, .inl lk)), (b5, .inl (e5, 12040, .inr (.inl nu))), (b6, .inl (e6, 301, .inl rb)), (b7, .inl (e7, 16, .inl rg)), (b8, .inl (e8, 301, .inl td))] → va_S A s.heap H locs → lv_has ls 6 [(0, .ref g0), (1, .int (nI k)), (2, .int (nI n))] → W p l e (headSpec wsX1_made ({ frames := 2, cells := 0, slots := 0, locals := 50 })).room s m args below meth c H locs 0 0 Q9 (F0 m 12 ls [.int (nI (1 + n))]) := by
    intro z9 H locs ls hI hP hD hS hl
    refine lv_istore_n hx hb dX1_made_12 rfl hl (by decide) rfl (fun ls hl => ?_)
    have hl : lv_has ls 6 [(3, .int (nI (1 + n))), (0, .ref g0), (1, .int (nI k)), (2, .int (nI n))] := hl
    refine lv_aload_n hx hb dX1_made_13 rfl (lv_at hl 1 rfl) ?_
    refine W.callR (W.runV (As := []) (rest := []) ⟨hx, hb, hml, hown, hts⟩ (c_X1_cells l dC dI g0 b1 b2 b3 b4 b5 b6 b7 b8 e1 e2 e3 e4 e5 e6 e7 e8 th kd zs od lk nu rb rg td ob co tp _ M hW hQ) (cwV 0 hts gw_X1_57 rfl rfl rfl ⟨rfl, by decide, by decide, by decide +kernel⟩ ⟨Nat.le_of_ble_eq_true rfl, Nat.le_of_ble_eq_true rfl⟩) ⟨hw_blind, va_recv (q0 := 0) (ci := 1) (q := (RX1, TX1, 12)) hK hP rfl rfl, hw_pay hP hK hD⟩ rfl rfl hl.1 rfl (lv_room (Nat.le_of_ble_eq_true rfl)) dX1_made_14 ⟨by decide, by decide⟩) ?_
    refine W.eq (g2 := F0 m 17 ls [.int (nI (hp_tk M))]) rfl ?_
    refine lv_iload_n hx hb dX1_made_17 rfl (lv_at hl 0 rfl) ?_
    refine lv_iadd hx hb dX1_made_18 ?_
    refine hw_topi (y := nI (hp_tk M + (1 + n))) (nI_add _ _) ?_
    refine lv_sipush (v := 300) hx hb dX1_made_19 (by decide) ?_
    refine lv_icmp_le hx hb dX1_made_22 (tgt := 31) (by decide) (fun hc => ?_) (fun hc => ?_)
    · have hf : hp_tk M + (1 + n) ≤ 300 := (nI_leI (b := 300) (by omega) (by decide)).mp hc
      exact tail31 th kd zs od lk nu rb rg td ob co tp H locs ls (by rw [hp_rm_t hf]; exact hQ) hP hD hS (lv_sub hl [1, 2, 3, 0] rfl)
    · have hf : ¬ hp_tk M + (1 + n) ≤ 300 := fun h9 => hc ((nI_leI (b := 300) (by omega) (by decide)).mpr h9)
      refine lv_aload_n hx hb dX1_made_25 rfl (lv_at hl 1 rfl) ?_
      refine hw_calli (va_runV (As := []) (rest := []) ⟨hx, hb, hml, hown, hts⟩ (c_X1_collect l dC dI g0 b1 b2 b3 b4 b5 b6 b7 b8 e1 e2 e3 e4 e5 e6 e7 e8 th kd zs od lk nu rb rg td ob co tp _ M hW hQ) (cwV 0 hts gw_X1_61 rfl rfl rfl ⟨rfl, by decide, by decide, by decide +kernel⟩ ⟨Nat.le_of_ble_eq_true rfl, Nat.le_of_ble_eq_true rfl⟩) ⟨hw_blind, va_recv (q0 := 0) (ci := 1) (q := (RX1, TX1, 12)) hK hP rfl rfl, hw_pay hP hK hD⟩ rfl rfl hl.1 rfl (lv_room (Nat.le_of_ble_eq_true rfl)) dX1_made_26 ⟨by decide, by decide⟩) hD hS hA (fun r9 u9 H locs hw hP hD hS => ?_)
      obtain ⟨th, kd, od, lk, rb, td, ob, co, tp⟩ := u9
      have hP : va_P (dC, dI) vwCl [(g0, .inr (1, [.int th, .ref b1, .ref b2, .ref b3, .ref b4, .ref b5, .ref b6, .ref b7, .ref b8, .int ob, .int co, .int tp])), (b1, .inl (e1, 301, .inl kd)), (b2, .inl (e2, 301, .inl zs)), (b3, .inl (e3, 301, .inl od)), (b4, .inl (e4, 12040, .inl lk)), (b5, .inl (e5, 12040, .inr (.inl nu))), (b6, .inl (e6, 301, .inl rb)), (b7, .inl (e7, 16, .inl rg)), (b8, .inl (e8, 301, .inl td))] H := hP
      have hD : va_D A [(g0, .inr (1, [.int th, .ref b1, .ref b2, .ref b3, .ref b4, .ref b5, .ref b6, .ref b7, .ref b8, .int ob, .int co, .int tp])), (b1, .inl (e1, 301, .inl kd)), (b2, .inl (e2, 301, .inl zs)), (b3, .inl (e3, 301, .inl od)), (b4, .inl (e4, 12040, .inl lk)), (b5, .inl (e5, 12040, .inr (.inl nu))), (b6, .inl (e6, 301, .inl rb)), (b7, .inl (e7, 16, .inl rg)), (b8, .inl (e8, 301, .inl td))] := hD
      refine lv_istore hx hb dX1_made_29 hl (by decide) rfl (fun ls hl => ?_)
      have hl : lv_has ls 6 [(4, .int r9), (3, .int (nI (1 + n))), (0, .ref g0), (1, .int (nI k)), (2, .int (nI n))] := hl
      exact tail31 th kd zs od lk nu rb rg td ob co tp H locs ls (by rw [hp_rm_f hf]; exact hw.2.1) hP hD hS (lv_sub hl [2, 3, 4, 1] rfl)
  refine lv_iconst (v := 1) hx hb dX1_made_0 (by decide) ?_
  refine lv_iload_n hx hb dX1_made_1 rfl (lv_at hl 1 rfl) ?_
  refine lv_iconst (v := 3) hx hb dX1_made_2 (by decide) ?_
  refine lv_icmp_ne hx hb dX1_made_3 (tgt := 10) (by decide) (fun hc => ?_) (fun hc => ?_)
  · skip
    refine lv_iload_n hx hb dX1_made_10 rfl (lv_at hl 2 rfl) ?_
    refine lv_iadd hx hb dX1_made_11 ?_
    refine hw_topi (y := nI (1 + n)) (hp_1a n) ?_
    exact tail12 () H locs ls (trivial) hP hD hS (lv_sub hl [0, 1, 2] rfl)
  · have hk3 : k = 3 := (nI_eq (b := 3) (by omega) (by decide)).mp hc
    have hn1 := hw3 hk3
    refine lv_iconst (v := 1) hx hb dX1_made_6 (by decide) ?_
    refine lv_goto hx hb dX1_made_7 (tgt := 11) (by decide) ?_
    refine hw_topi (y := nI n) (by rw [hn1]; decide) ?_
    refine lv_iadd hx hb dX1_made_11 ?_
    refine hw_topi (y := nI (1 + n)) (hp_1a n) ?_
    exact tail12 () H locs ls (trivial) hP hD hS (lv_sub hl [0, 1, 2] rfl)
