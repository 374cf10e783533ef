set_option maxHeartbeats 4000000 in
set_option maxRecDepth 100000 in
theorem c0_X1_make (l : Launch) (dC : Nat → ClassId) (dI : Nat → Nat → Nat) (g0 b1 b2 b3 b4 b5 b6 b7 b8 : Nat) (e1 e2 e3 e4 e5 e6 e7 e8 : ClassId) (th : Int32) (kd zs od lk : Nat → Int32) (nu : Nat → Int64) (rb rg td : Nat → Int32) (ob co tp : Int32) (sz : Nat) (M : hp_S) (hW : hp_W M) (hQ : hp_Q M kd zs od lk nu rg ob co) (r y n : Int32) (hbad : hp_bad r 16 ∨ hp_bad n 41) : Met l yX1_make wsX1_make ({ frames := 1, cells := 0, slots := 0, locals := 21 }) (va_Pc [.ref g0, .int r, .int y, .int n] (hw_pre (dC, dI) vwCl [(e1, .int), (e2, .int), (e3, .int), (e4, .int), (e5, .long), (e6, .boolean), (e7, .int), (e8, .int)] [(g0, .inr (1, [.int th, .ref b1, .ref b2, .ref b3, .ref b4, .ref b5, .ref b6, .ref b7, .ref b8, .int ob, .int co, .int tp])), (b1, .inl (e1, 301, .inl kd)), (b2, .inl (e2, 301, .inl zs)), (b3, .inl (e3, 301, .inl od)), (b4, .inl (e4, 12040, .inl lk)), (b5, .inl (e5, 12040, .inr (.inl nu))), (b6, .inl (e6, 301, .inl rb)), (b7, .inl (e7, 16, .inl rg)), (b8, .inl (e8, 301, .inl td))] sz)) (va_Qi (fun (_ u : Int32) => u = 1) (fun u t => hw_B (dC, dI) vwCl [(e1, .int), (e2, .int), (e3, .int), (e4, .int), (e5, .long), (e6, .boolean), (e7, .int), (e8, .int)] (va_A [(g0, .inr (1, [.int th, .ref b1, .ref b2, .ref b3, .ref b4, .ref b5, .ref b6, .ref b7, .ref b8, .int ob, .int co, .int tp])), (b1, .inl (e1, 301, .inl kd)), (b2, .inl (e2, 301, .inl zs)), (b3, .inl (e3, 301, .inl od)), (b4, .inl (e4, 12040, .inl lk)), (b5, .inl (e5, 12040, .inr (.inl nu))), (b6, .inl (e6, 301, .inl rb)), (b7, .inl (e7, 16, .inl rg)), (b8, .inl (e8, 301, .inl td))] sz) ((fun u : Int32 => [(g0, .inr (1, [.int u, .ref b1, .ref b2, .ref b3, .ref b4, .ref b5, .ref b6, .ref b7, .ref b8, .int ob, .int co, .int tp])), (b1, .inl (e1, 301, .inl kd)), (b2, .inl (e2, 301, .inl zs)), (b3, .inl (e3, 301, .inl od)), (b4, .inl (e4, 12040, .inl lk)), (b5, .inl (e5, 12040, .inr (.inl nu))), (b6, .inl (e6, 301, .inl rb)), (b7, .inl (e7, 16, .inl rg)), (b8, .inl (e8, 301, .inl td))]) u) t) (va_A [(g0, .inr (1, [.int th, .ref b1, .ref b2, .ref b3, .ref b4, .ref b5, .ref b6, .ref b7, .ref b8, .int ob, .int co, .int tp])), (b1, .inl (e1, 301, .inl kd)), (b2, .inl (e2, 301, .inl zs)), (b3, .inl (e3, 301, .inl od)), (b4, .inl (e4, 12040, .inl lk)), (b5, .inl (e5, 12040, .inr (.inl nu))), (b6, .inl (e6, 301, .inl rb)), (b7, .inl (e7, 16, .inl rg)), (b8, .inl (e8, 301, .inl td))] sz)) 0 0 (va_A [(g0, .inr (1, [.int th, .ref b1, .ref b2, .ref b3, .ref b4, .ref b5, .ref b6, .ref b7, .ref b8, .int ob, .int co, .int tp])), (b1, .inl (e1, 301, .inl kd)), (b2, .inl (e2, 301, .inl zs)), (b3, .inl (e3, 301, .inl od)), (b4, .inl (e4, 12040, .inl lk)), (b5, .inl (e5, 12040, .inr (.inl nu))), (b6, .inl (e6, 301, .inl rb)), (b7, .inl (e7, 16, .inl rg)), (b8, .inl (e8, 301, .inl td))] sz) := by
  refine Met.ofW (cc := cX1_make) (maxL := 5) (ret := some .int) (by decide) rfl ?_
  intro p e s m args below meth c s₁ B hml hv
  obtain ⟨hargs, hsz, hP, hK, hD0⟩ := hv
  have hx := B.exec
  have hb := B.bytes
  have hr := B.returns
  have hts : ∀ w ∈ wb, w.before _ s = true := fun w h => atoms_spec (ws := wsX1_make) B.pre w (List.mem_cons_of_mem _ h)
  have hown : s.vm.findClass RX1 = some m.cls := findClass_of_methodNamed B.named
  have hlocks := B.notSynchronized
  subst hsz
  have hD := hD0.self (sz := s.heap.size)
  generalize hAe : va_A [(g0, .inr (1, [.int th, .ref b1, .ref b2, .ref b3, .ref b4, .ref b5, .ref b6, .ref b7, .ref b8, .int ob, .int co, .int tp])), (b1, .inl (e1, 301, .inl kd)), (b2, .inl (e2, 301, .inl zs)), (b3, .inl (e3, 301, .inl od)), (b4, .inl (e4, 12040, .inl lk)), (b5, .inl (e5, 12040, .inr (.inl nu))), (b6, .inl (e6, 301, .inl rb)), (b7, .inl (e7, 16, .inl rg)), (b8, .inl (e8, 301, .inl td))] s.heap.size = A at hD ⊢
  have hA : ∀ q : Nat, s.heap.size ≤ q → A q := fun q h => by rw [← hAe]; exact Or.inr h
  have hS : va_S A s.heap s.heap [] := va_S.rf
  generalize hQ9 : MQ below (va_Qi (fun (_ u : Int32) => u = 1) (fun u t => hw_B (dC, dI) vwCl [(e1, .int), (e2, .int), (e3, .int), (e4, .int), (e5, .long), (e6, .boolean), (e7, .int), (e8, .int)] A ((fun u : Int32 => [(g0, .inr (1, [.int u, .ref b1, .ref b2, .ref b3, .ref b4, .ref b5, .ref b6, .ref b7, .ref b8, .int ob, .int co, .int tp])), (b1, .inl (e1, 301, .inl kd)), (b2, .inl (e2, 301, .inl zs)), (b3, .inl (e3, 301, .inl od)), (b4, .inl (e4, 12040, .inl lk)), (b5, .inl (e5, 12040, .inr (.inl nu))), (b6, .inl (e6, 301, .inl rb)), (b7, .inl (e7, 16, .inl rg)), (b8, .inl (e8, 301, .inl td))]) u) t) A) args s 0 0 A = Q9
  have hl := lv_entry ([.ref g0, .int r, .int y, .int n]) (n := 5) (Nat.le_of_ble_eq_true rfl)
  rw [show entryFrame m args 5 = _ from (congrArg (fun z => entryFrame m z 5) hargs).trans (lg_entry_eq m [.ref g0, .int r, .int y, .int n] 5)]
  generalize (lg_sl ([.ref g0, .int r, .int y, .int n]) ++ List.replicate (5 - (lg_sl ([.ref g0, .int r, .int y, .int n])).length) Slot.unset).toArray = ls at hl ⊢
  have hl : lv_has ls 5 [(0, .ref g0), (1, .int r), (2, .int y), (3, .int n)] := hl
  obtain ⟨H, hH⟩ : ∃ H, H = s.heap := ⟨_, rfl⟩
  rw [← hH] at hP
  have hS : va_S A s.heap H [] := by rw [hH]; exact hS
  rw [← hH]
  generalize ([] : List Loc) = locs at hS ⊢
  have tail : ∀ (z9 : Unit) (H : Heap) (locs : List Loc) (ls : Array Slot), (True) → va_P (dC, dI) vwCl [(g0, .inr (1, [.int th, .ref b1, .ref b2, .ref b3, .ref b4, .ref b5, .ref b6, .ref b7, .ref b8, .int ob, .int co, .int tp])), (b1, .inl (e1, 301, .inl kd)), (b2, .inl (e2, 301, .inl zs)), (b3, .inl (e3, 301, .inl od)), (b4, .inl (e4, 12040, .inl lk)), (b5, .inl (e5, 12040, .inr (.inl nu))), (b6, .inl (e6, 301, .inl rb)), (b7, .inl (e7, 16, .inl rg)), (b8, .inl (e8, 301, .inl td))] H → va_D A [(g0, .inr (1, [.int th, .ref b1, .ref b2, .ref b3, .ref b4, .ref b5, .ref b6, .ref b7, .ref b8, .int ob, .int co, .int tp])), (b1, .inl (e1, 301, .inl kd)), (b2, .inl (e2, 301, .inl zs)), (b3, .inl (e3, 301, .inl od)), (b4, .inl (e4, 12040, .inl lk)), (b5, .inl (e5, 12040, .inr (.inl nu))), (b6, .inl (e6, 301, .inl rb)), (b7, .inl (e7, 16, .inl rg)), (b8, .inl (e8, 301, .inl td))] → va_S A s.heap H locs → lv_has ls 5 [(0, .ref g0), (1, .int r), (2, .int y), (3, .int n)] → W p l e (headSpec wsX1_make ({ frames := 1, cells := 0, slots := 0, locals := 21 })).room s m args below meth c H locs 0 0 Q9 (F0 m 24 ls [.int 1, .ref g0]) := by
    intro z9 H locs ls hI hP hD hS hl
    refine va_put (D := (dC, dI)) (ci := 1) (v := .int 1) (ty := .int) (C := RX1) (T := TX1) (N := 12) hx hb hts inX1 tyX1 tyX1_ok nmX1 hown hK hP hD hS 0 rfl rfl 0 (by decide) (hts _ bw_fl_X1_36) (fun _ h9 => h9) rfl (by decide +kernel) rfl rfl (Nat.le_of_ble_eq_true rfl) dX1_make_24 (fun H locs hP hD hS => ?_)
    have hP : va_P (dC, dI) vwCl [(g0, .inr (1, [.int 1, .ref b1, .ref b2, .ref b3, .ref b4, .ref b5, .ref b6, .ref b7, .ref b8, .int ob, .int co, .int tp])), (b1, .inl (e1, 301, .inl kd)), (b2, .inl (e2, 301, .inl zs)), (b3, .inl (e3, 301, .inl od)), (b4, .inl (e4, 12040, .inl lk)), (b5, .inl (e5, 12040, .inr (.inl nu))), (b6, .inl (e6, 301, .inl rb)), (b7, .inl (e7, 16, .inl rg)), (b8, .inl (e8, 301, .inl td))] H := hP
    have hD : va_D A [(g0, .inr (1, [.int 1, .ref b1, .ref b2, .ref b3, .ref b4, .ref b5, .ref b6, .ref b7, .ref b8, .int ob, .int co, .int tp])), (b1, .inl (e1, 301, .inl kd)), (b2, .inl (e2, 301, .inl zs)), (b3, .inl (e3, 301, .inl od)), (b4, .inl (e4, 12040, .inl lk)), (b5, .inl (e5, 12040, .inr (.inl nu))), (b6, .inl (e6, 301, .inl rb)), (b7, .inl (e7, 16, .inl rg)), (b8, .inl (e8, 301, .inl td))] := hD
    refine lv_aload_n hx hb dX1_make_27 rfl (lv_at hl 0 rfl) ?_
    refine va_get (D := (dC, dI)) (ci := 1) (v := .int 1) (C := RX1) (T := TX1) (N := 12) hx hb hts inX1 hown hK hP 0 rfl rfl 0 (by decide) (hts _ bw_fl_X1_36) (fun _ h9 => h9) rfl dX1_make_28 ?_
    refine lv_if_eq hx hb dX1_make_31 (tgt := 36) (by decide) (fun hc => ?_) (fun hc => ?_)
    · exact absurd hc hp_10
    · skip
      refine lv_iconst (v := 0) hx hb dX1_make_34 (by decide) ?_
      subst hQ9
      exact W.iret (v := 0) hx hb hr (fun t ht hWm => ⟨⟨0, 1, rfl, rfl, by rw [ht]; exact hP, va_K.moved hWm.alike hK, hD⟩, hS.F ht⟩) hS.2.2 dX1_make_35
  refine lv_aload_n hx hb dX1_make_0 rfl (lv_at hl 0 rfl) ?_
  refine lv_aload_n hx hb dX1_make_1 rfl (lv_at hl 0 rfl) ?_
  refine lv_iload_n hx hb dX1_make_2 rfl (lv_at hl 1 rfl) ?_
  by_cases hr1 : hp_bad r 16
  · skip
    refine W.callR (W.runV (As := [.int r]) (rest := [.ref g0]) ⟨hx, hb, hml, hown, hts⟩ (c0_X1_isRegister l dC dI g0 b1 b2 b3 b4 b5 b6 b7 b8 e1 e2 e3 e4 e5 e6 e7 e8 th kd zs od lk nu rb rg td ob co tp _ hr1) (cwV 1 hts gw_X1_64 rfl rfl rfl ⟨rfl, by decide, by decide, by decide +kernel⟩ ⟨Nat.le_of_ble_eq_true rfl, Nat.le_of_ble_eq_true rfl⟩) ⟨hw_blind, va_recv (q0 := 0) (ci := 1) (q := (RX1, TX1, 12)) hK hP rfl rfl, hw_pay hP hK hD⟩ rfl rfl hl.1 rfl (lv_room (Nat.le_of_ble_eq_true rfl)) dX1_make_3 ⟨by decide, by decide⟩) ?_
    refine W.eq (g2 := F0 m 6 ls [.int 0, .ref g0]) rfl ?_
    refine lv_if_eq hx hb dX1_make_6 (tgt := 19) (by decide) (fun hc => ?_) (fun hc => ?_)
    · skip
      refine lv_iconst (v := 1) hx hb dX1_make_19 (by decide) ?_
      refine lv_goto hx hb dX1_make_20 (tgt := 24) (by decide) ?_
      exact tail () H locs ls (trivial) hP hD hS (lv_sub hl [0, 1, 2, 3] rfl)
    · exact absurd rfl hc
  · skip
    refine W.callR (W.runV (As := [.int r]) (rest := [.ref g0]) ⟨hx, hb, hml, hown, hts⟩ (c1_X1_isRegister l dC dI g0 b1 b2 b3 b4 b5 b6 b7 b8 e1 e2 e3 e4 e5 e6 e7 e8 th kd zs od lk nu rb rg td ob co tp _ hr1) (cwV 1 hts gw_X1_64 rfl rfl rfl ⟨rfl, by decide, by decide, by decide +kernel⟩ ⟨Nat.le_of_ble_eq_true rfl, Nat.le_of_ble_eq_true rfl⟩) ⟨hw_blind, va_recv (q0 := 0) (ci := 1) (q := (RX1, TX1, 12)) hK hP rfl rfl, hw_pay hP hK hD⟩ rfl rfl hl.1 rfl (lv_room (Nat.le_of_ble_eq_true rfl)) dX1_make_3 ⟨by decide, by decide⟩) ?_
    refine W.eq (g2 := F0 m 6 ls [.int 1, .ref g0]) rfl ?_
    refine lv_if_eq hx hb dX1_make_6 (tgt := 19) (by decide) (fun hc => ?_) (fun hc => ?_)
    · exact absurd hc hp_10
    · skip
      refine lv_iload_n hx hb dX1_make_9 rfl (lv_at hl 3 rfl) ?_
      refine lv_if_lt hx hb dX1_make_10 (tgt := 19) (by decide) (fun hc => ?_) (fun hc => ?_)
      · skip
        refine lv_iconst (v := 1) hx hb dX1_make_19 (by decide) ?_
        refine lv_goto hx hb dX1_make_20 (tgt := 24) (by decide) ?_
        exact tail () H locs ls (trivial) hP hD hS (lv_sub hl [0, 1, 2, 3] rfl)
      · have hn0 := hc
        refine lv_iload_n hx hb dX1_make_13 rfl (lv_at hl 3 rfl) ?_
        refine lv_bipush (v := 40) hx hb dX1_make_14 (by decide) ?_
        refine lv_icmp_le hx hb dX1_make_16 (tgt := 23) (by decide) (fun hc => ?_) (fun hc => ?_)
        · exact absurd (hp_41.mpr ((hbad.resolve_left hr1).resolve_left hn0)) (fun h9 => h9 hc)
        · skip
          refine lv_iconst (v := 1) hx hb dX1_make_19 (by decide) ?_
          refine lv_goto hx hb dX1_make_20 (tgt := 24) (by decide) ?_
          exact tail () H locs ls (trivial) hP hD hS (lv_sub hl [0, 1, 2, 3] rfl)

set_option maxHeartbeats 4000000 in
set_option maxRecDepth 100000 in
theorem c2_X1_make (l : Launch) (dC : Nat → ClassId) (dI : Nat → Nat → Nat) (g0 b1 b2 b3 b4 b5 b6 b7 b8 : Nat) (e1 e2 e3 e4 e5 e6 e7 e8 : ClassId) (th : Int32) (kd zs od lk : Nat → Int32) (nu : Nat → Int64) (rb rg td : Nat → Int32) (ob co tp : Int32) (sz : Nat) (M : hp_S) (hW : hp_W M) (hQ : hp_Q M kd zs od lk nu rg ob co) (j n k : Nat) (y : Int32) (hj : j < 16) (hn : n ≤ 40) (hlk : y = 0 ∧ k = 2 ∨ ¬ y = 0 ∧ k = 1) (hfull : ¬ hp_tk (hp_rm M n) + (1 + n) ≤ 300) : Met l yX1_make wsX1_make ({ frames := 3, cells := 0, slots := 0, locals := 80 }) (va_Pc [.ref g0, .int (nI j), .int y, .int (nI n)] (hw_pre (dC, dI) vwCl [(e1, .int), (e2, .int), (e3, .int), (e4, .int), (e5, .long), (e6, .boolean), (e7, .int), (e8, .int)] [(g0, .inr (1, [.int th, .ref b1, .ref b2, .ref b3, .ref b4, .ref b5, .ref b6, .ref b7, .ref b8, .int ob, .int co, .int tp])), (b1, .inl (e1, 301, .inl kd)), (b2, .inl (e2, 301, .inl zs)), (b3, .inl (e3, 301, .inl od)), (b4, .inl (e4, 12040, .inl lk)), (b5, .inl (e5, 12040, .inr (.inl nu))), (b6, .inl (e6, 301, .inl rb)), (b7, .inl (e7, 16, .inl rg)), (b8, .inl (e8, 301, .inl td))] sz)) (va_Qi (fun (_ : Int32) (u : Int32 × (Nat → Int32) × (Nat → Int32) × (Nat → Int32) × (Nat → Int32) × (Nat → Int64) × (Nat → Int32) × (Nat → Int32) × (Nat → Int32) × Int32 × Int32 × Int32) => u.1 = 2 ∧ hp_Q (hp_rm M n) u.2.1 u.2.2.1 u.2.2.2.1 u.2.2.2.2.1 u.2.2.2.2.2.1 u.2.2.2.2.2.2.2.1 u.2.2.2.2.2.2.2.2.2.1 u.2.2.2.2.2.2.2.2.2.2.1) (fun u t => hw_B (dC, dI) vwCl [(e1, .int), (e2, .int), (e3, .int), (e4, .int), (e5, .long), (e6, .boolean), (e7, .int), (e8, .int)] (va_A [(g0, .inr (1, [.int th, .ref b1, .ref b2, .ref b3, .ref b4, .ref b5, .ref b6, .ref b7, .ref b8, .int ob, .int co, .int tp])), (b1, .inl (e1, 301, .inl kd)), (b2, .inl (e2, 301, .inl zs)), (b3, .inl (e3, 301, .inl od)), (b4, .inl (e4, 12040, .inl lk)), (b5, .inl (e5, 12040, .inr (.inl nu))), (b6, .inl (e6, 301, .inl rb)), (b7, .inl (e7, 16, .inl rg)), (b8, .inl (e8, 301, .inl td))] sz) ((fun u : Int32 × (Nat → Int32) × (Nat → Int32) × (Nat → Int32) × (Nat → Int32) × (Nat → Int64) × (Nat → Int32) × (Nat → Int32) × (Nat → Int32) × Int32 × Int32 × Int32 => [(g0, .inr (1, [.int u.1, .ref b1, .ref b2, .ref b3, .ref b4, .ref b5, .ref b6, .ref b7, .ref b8, .int u.2.2.2.2.2.2.2.2.2.1, .int u.2.2.2.2.2.2.2.2.2.2.1, .int u.2.2.2.2.2.2.2.2.2.2.2])), (b1, .inl (e1, 301, .inl u.2.1)), (b2, .inl (e2, 301, .inl u.2.2.1)), (b3, .inl (e3, 301, .inl u.2.2.2.1)), (b4, .inl (e4, 12040, .inl u.2.2.2.2.1)), (b5, .inl (e5, 12040, .inr (.inl u.2.2.2.2.2.1))), (b6, .inl (e6, 301, .inl u.2.2.2.2.2.2.1)), (b7, .inl (e7, 16, .inl u.2.2.2.2.2.2.2.1)), (b8, .inl (e8, 301, .inl u.2.2.2.2.2.2.2.2.1))]) u) t) (va_A [(g0, .inr (1, [.int th, .ref b1, .ref b2, .ref b3, .ref b4, .ref b5, .ref b6, .ref b7, .ref b8, .int ob, .int co, .int tp])), (b1, .inl (e1, 301, .inl kd)), (b2, .inl (e2, 301, .inl zs)), (b3, .inl (e3, 301, .inl od)), (b4, .inl (e4, 12040, .inl lk)), (b5, .inl (e5, 12040, .inr (.inl nu))), (b6, .inl (e6, 301, .inl rb)), (b7, .inl (e7, 16, .inl rg)), (b8, .inl (e8, 301, .inl td))] sz)) 0 0 (va_A [(g0, .inr (1, [.int th, .ref b1, .ref b2, .ref b3, .ref b4, .ref b5, .ref b6, .ref b7, .ref b8, .int ob, .int co, .int tp])), (b1, .inl (e1, 301, .inl kd)), (b2, .inl (e2, 301, .inl zs)), (b3, .inl (e3, 301, .inl od)), (b4, .inl (e4, 12040, .inl lk)), (b5, .inl (e5, 12040, .inr (.inl nu))), (b6, .inl (e6, 301, .inl rb)), (b7, .inl (e7, 16, .inl rg)), (b8, .inl (e8, 301, .inl td))] sz) := by
  refine Met.ofW (cc := cX1_make) (maxL := 5) (ret := some .int) (by decide) rfl ?_
  intro p e s m args below meth c s₁ B hml hv
  obtain ⟨hargs, hsz, hP, hK, hD0⟩ := hv
  have hx := B.exec
  have hb := B.bytes
  have hr := B.returns
  have hts : ∀ w ∈ wb, w.before _ s = true := fun w h => atoms_spec (ws := wsX1_make) B.pre w (List.mem_cons_of_mem _ h)
  have hown : s.vm.findClass RX1 = some m.cls := findClass_of_methodNamed B.named
  have hlocks := B.notSynchronized
  subst hsz
  have hD := hD0.self (sz := s.heap.size)
  generalize hAe : va_A [(g0, .inr (1, [.int th, .ref b1, .ref b2, .ref b3, .ref b4, .ref b5, .ref b6, .ref b7, .ref b8, .int ob, .int co, .int tp])), (b1, .inl (e1, 301, .inl kd)), (b2, .inl (e2, 301, .inl zs)), (b3, .inl (e3, 301, .inl od)), (b4, .inl (e4, 12040, .inl lk)), (b5, .inl (e5, 12040, .inr (.inl nu))), (b6, .inl (e6, 301, .inl rb)), (b7, .inl (e7, 16, .inl rg)), (b8, .inl (e8, 301, .inl td))] s.heap.size = A at hD ⊢
  have hA : ∀ q : Nat, s.heap.size ≤ q → A q := fun q h => by rw [← hAe]; exact Or.inr h
  have hS : va_S A s.heap s.heap [] := va_S.rf
  generalize hQ9 : MQ below (va_Qi (fun (_ : Int32) (u : Int32 × (Nat → Int32) × (Nat → Int32) × (Nat → Int32) × (Nat → Int32) × (Nat → Int64) × (Nat → Int32) × (Nat → Int32) × (Nat → Int32) × Int32 × Int32 × Int32) => u.1 = 2 ∧ hp_Q (hp_rm M n) u.2.1 u.2.2.1 u.2.2.2.1 u.2.2.2.2.1 u.2.2.2.2.2.1 u.2.2.2.2.2.2.2.1 u.2.2.2.2.2.2.2.2.2.1 u.2.2.2.2.2.2.2.2.2.2.1) (fun u t => hw_B (dC, dI) vwCl [(e1, .int), (e2, .int), (e3, .int), (e4, .int), (e5, .long), (e6, .boolean), (e7, .int), (e8, .int)] A ((fun u : Int32 × (Nat → Int32) × (Nat → Int32) × (Nat → Int32) × (Nat → Int32) × (Nat → Int64) × (Nat → Int32) × (Nat → Int32) × (Nat → Int32) × Int32 × Int32 × Int32 => [(g0, .inr (1, [.int u.1, .ref b1, .ref b2, .ref b3, .ref b4, .ref b5, .ref b6, .ref b7, .ref b8, .int u.2.2.2.2.2.2.2.2.2.1, .int u.2.2.2.2.2.2.2.2.2.2.1, .int u.2.2.2.2.2.2.2.2.2.2.2])), (b1, .inl (e1, 301, .inl u.2.1)), (b2, .inl (e2, 301, .inl u.2.2.1)), (b3, .inl (e3, 301, .inl u.2.2.2.1)), (b4, .inl (e4, 12040, .inl u.2.2.2.2.1)), (b5, .inl (e5, 12040, .inr (.inl u.2.2.2.2.2.1))), (b6, .inl (e6, 301, .inl u.2.2.2.2.2.2.1)), (b7, .inl (e7, 16, .inl u.2.2.2.2.2.2.2.1)), (b8, .inl (e8, 301, .inl u.2.2.2.2.2.2.2.2.1))]) u) t) A) args s 0 0 A = Q9
  have hl := lv_entry ([.ref g0, .int (nI j), .int y, .int (nI n)]) (n := 5) (Nat.le_of_ble_eq_true rfl)
  rw [show entryFrame m args 5 = _ from (congrArg (fun z => entryFrame m z 5) hargs).trans (lg_entry_eq m [.ref g0, .int (nI j), .int y, .int (nI n)] 5)]
  generalize (lg_sl ([.ref g0, .int (nI j), .int y, .int (nI n)]) ++ List.replicate (5 - (lg_sl ([.ref g0, .int (nI j), .int y, .int (nI n)])).length) Slot.unset).toArray = ls at hl ⊢
  have hl : lv_has ls 5 [(0, .ref g0), (1, .int (nI j)), (2, .int y), (3, .int (nI n))] := hl
  obtain ⟨H, hH⟩ : ∃ H, H = s.heap := ⟨_, rfl⟩
  rw [← hH] at hP
  have hS : va_S A s.heap H [] := by rw [hH]; exact hS
  rw [← hH]
  generalize ([] : List Loc) = locs at hS ⊢
  have hW1 := hp_rm_W hW n
  have hk4 : k < 4 := by omega
  have hk1 : 1 ≤ k := by omega
  have hw3 : k = 3 → n = 1 := fun h9 => by omega
  have tail46 : ∀ (z9 : Unit) (H : Heap) (locs : List Loc) (ls : Array Slot), (True) → va_P (dC, dI) vwCl [(g0, .inr (1, [.int 0, .ref b1, .ref b2, .ref b3, .ref b4, .ref b5, .ref b6, .ref b7, .ref b8, .int ob, .int co, .int tp])), (b1, .inl (e1, 301, .inl kd)), (b2, .inl (e2, 301, .inl zs)), (b3, .inl (e3, 301, .inl od)), (b4, .inl (e4, 12040, .inl lk)), (b5, .inl (e5, 12040, .inr (.inl nu))), (b6, .inl (e6, 301, .inl rb)), (b7, .inl (e7, 16, .inl rg)), (b8, .inl (e8, 301, .inl td))] H → va_D A [(g0, .inr (1, [.int 0, .ref b1, .ref b2, .ref b3, .ref b4, .ref b5, .ref b6, .ref b7, .ref b8, .int ob, .int co, .int tp])), (b1, .inl (e1, 301, .inl kd)), (b2, .inl (e2, 301, .inl zs)), (b3, .inl (e3, 301, .inl od)), (b4, .inl (e4, 12040, .inl lk)), (b5, .inl (e5, 12040, .inr (.inl nu))), (b6, .inl (e6, 301, .inl rb)), (b7, .inl (e7, 16, .inl rg)), (b8, .inl (e8, 301, .inl td))] → va_S A s.heap H locs → lv_has ls 5 [(0, .ref g0), (1, .int (nI j)), (2, .int y), (3, .int (nI n))] → W p l e (headSpec wsX1_make ({ frames := 3, cells := 0, slots := 0, locals := 80 })).room s m args below meth c H locs 0 0 Q9 (F0 m 46 ls [.int (nI k), .ref g0]) := by
    intro z9 H locs ls hI hP hD hS hl
    refine lv_iload_n hx hb dX1_make_46 rfl (lv_at hl 3 rfl) ?_
    refine hw_calli (va_runV (As := [.int (nI k), .int (nI n)]) (rest := []) ⟨hx, hb, hml, hown, hts⟩ (c0_X1_made l dC dI g0 b1 b2 b3 b4 b5 b6 b7 b8 e1 e2 e3 e4 e5 e6 e7 e8 0 kd zs od lk nu rb rg td ob co tp _ M hW hQ k n hk1 hk4 hn hw3 hfull) (cwV 2 hts gw_X1_68 rfl rfl rfl ⟨rfl, by decide, by decide, by decide +kernel⟩ ⟨Nat.le_of_ble_eq_true rfl, Nat.le_of_ble_eq_true rfl⟩) ⟨hw_blind, va_recv (q0 := 0) (ci := 1) (q := (RX1, TX1, 12)) hK hP rfl rfl, hw_pay hP hK hD⟩ rfl rfl hl.1 rfl (lv_room (Nat.le_of_ble_eq_true rfl)) dX1_make_47 ⟨by decide, by decide⟩) hD hS hA (fun r9 u9 H locs hw hP hD hS => ?_)
    obtain ⟨th, kd, zs, od, lk, nu, rb, rg, td, ob, co, tp⟩ := u9
    have hP : va_P (dC, dI) vwCl [(g0, .inr (1, [.int th, .ref b1, .ref b2, .ref b3, .ref b4, .ref b5, .ref b6, .ref b7, .ref b8, .int ob, .int co, .int tp])), (b1, .inl (e1, 301, .inl kd)), (b2, .inl (e2, 301, .inl zs)), (b3, .inl (e3, 301, .inl od)), (b4, .inl (e4, 12040, .inl lk)), (b5, .inl (e5, 12040, .inr (.inl nu))), (b6, .inl (e6, 301, .inl rb)), (b7, .inl (e7, 16, .inl rg)), (b8, .inl (e8, 301, .inl td))] H := hP
    have hD : va_D A [(g0, .inr (1, [.int th, .ref b1, .ref b2, .ref b3, .ref b4, .ref b5, .ref b6, .ref b7, .ref b8, .int ob, .int co, .int tp])), (b1, .inl (e1, 301, .inl kd)), (b2, .inl (e2, 301, .inl zs)), (b3, .inl (e3, 301, .inl od)), (b4, .inl (e4, 12040, .inl lk)), (b5, .inl (e5, 12040, .inr (.inl nu))), (b6, .inl (e6, 301, .inl rb)), (b7, .inl (e7, 16, .inl rg)), (b8, .inl (e8, 301, .inl td))] := hD
    obtain ⟨hr9, hQ1⟩ := hw
    refine hw_topi (y := 0) (hr9) ?_
    refine lv_istore hx hb dX1_make_50 hl (by decide) rfl (fun ls hl => ?_)
    have hl : lv_has ls 5 [(4, .int 0), (0, .ref g0), (1, .int (nI j)), (2, .int y), (3, .int (nI n))] := hl
    refine lv_aload_n hx hb dX1_make_52 rfl (lv_at hl 1 rfl) ?_
    refine lv_iload hx hb dX1_make_53 (lv_at hl 0 rfl) ?_
    refine lv_if_ne hx hb dX1_make_55 (tgt := 62) (by decide) (fun hc => ?_) (fun hc => ?_)
    · exact absurd rfl hc
    · skip
      refine lv_iconst (v := 2) hx hb dX1_make_58 (by decide) ?_
      refine lv_goto hx hb dX1_make_59 (tgt := 63) (by decide) ?_
      refine va_put (D := (dC, dI)) (ci := 1) (v := .int 2) (ty := .int) (C := RX1) (T := TX1) (N := 12) hx hb hts inX1 tyX1 tyX1_ok nmX1 hown hK hP hD hS 0 rfl rfl 0 (by decide) (hts _ bw_fl_X1_36) (fun _ h9 => h9) rfl (by decide +kernel) rfl rfl (Nat.le_of_ble_eq_true rfl) dX1_make_63 (fun H locs hP hD hS => ?_)
      have hP : va_P (dC, dI) vwCl [(g0, .inr (1, [.int 2, .ref b1, .ref b2, .ref b3, .ref b4, .ref b5, .ref b6, .ref b7, .ref b8, .int ob, .int co, .int tp])), (b1, .inl (e1, 301, .inl kd)), (b2, .inl (e2, 301, .inl zs)), (b3, .inl (e3, 301, .inl od)), (b4, .inl (e4, 12040, .inl lk)), (b5, .inl (e5, 12040, .inr (.inl nu))), (b6, .inl (e6, 301, .inl rb)), (b7, .inl (e7, 16, .inl rg)), (b8, .inl (e8, 301, .inl td))] H := hP
      have hD : va_D A [(g0, .inr (1, [.int 2, .ref b1, .ref b2, .ref b3, .ref b4, .ref b5, .ref b6, .ref b7, .ref b8, .int ob, .int co, .int tp])), (b1, .inl (e1, 301, .inl kd)), (b2, .inl (e2, 301, .inl zs)), (b3, .inl (e3, 301, .inl od)), (b4, .inl (e4, 12040, .inl lk)), (b5, .inl (e5, 12040, .inr (.inl nu))), (b6, .inl (e6, 301, .inl rb)), (b7, .inl (e7, 16, .inl rg)), (b8, .inl (e8, 301, .inl td))] := hD
      refine lv_iload hx hb dX1_make_66 (lv_at hl 0 rfl) ?_
      refine lv_if_ne hx hb dX1_make_68 (tgt := 73) (by decide) (fun hc => ?_) (fun hc => ?_)
      · exact absurd rfl hc
      · skip
        refine lv_iconst (v := 0) hx hb dX1_make_71 (by decide) ?_
        subst hQ9
        exact W.iret (v := 0) hx hb hr (fun t ht hWm => ⟨⟨0, (2, kd, zs, od, lk, nu, rb, rg, td, ob, co, tp), rfl, ⟨rfl, hQ1⟩, by rw [ht]; exact hP, va_K.moved hWm.alike hK, hD⟩, hS.F ht⟩) hS.2.2 dX1_make_72
  refine lv_aload_n hx hb dX1_make_0 rfl (lv_at hl 0 rfl) ?_
  refine lv_aload_n hx hb dX1_make_1 rfl (lv_at hl 0 rfl) ?_
  refine lv_iload_n hx hb dX1_make_2 rfl (lv_at hl 1 rfl) ?_
  refine W.callR (W.runV (As := [.int (nI j)]) (rest := [.ref g0]) ⟨hx, hb, hml, hown, hts⟩ (c1_X1_isRegister l dC dI g0 b1 b2 b3 b4 b5 b6 b7 b8 e1 e2 e3 e4 e5 e6 e7 e8 th kd zs od lk nu rb rg td ob co tp _ (hp_ok2 hj (by decide))) (cwV 1 hts gw_X1_64 rfl rfl rfl ⟨rfl, by decide, by decide, by decide +kernel⟩ ⟨Nat.le_of_ble_eq_true rfl, Nat.le_of_ble_eq_true rfl⟩) ⟨hw_blind, va_recv (q0 := 0) (ci := 1) (q := (RX1, TX1, 12)) hK hP rfl rfl, hw_pay hP hK hD⟩ rfl rfl hl.1 rfl (lv_room (Nat.le_of_ble_eq_true rfl)) dX1_make_3 ⟨by decide, by decide⟩) ?_
  refine W.eq (g2 := F0 m 6 ls [.int 1, .ref g0]) rfl ?_
  refine lv_if_eq hx hb dX1_make_6 (tgt := 19) (by decide) (fun hc => ?_) (fun hc => ?_)
  · exact absurd hc hp_10
  · skip
    refine lv_iload_n hx hb dX1_make_9 rfl (lv_at hl 3 rfl) ?_
    refine lv_if_lt hx hb dX1_make_10 (tgt := 19) (by decide) (fun hc => ?_) (fun hc => ?_)
    · exact absurd hc (nI_pos (by omega))
    · skip
      refine lv_iload_n hx hb dX1_make_13 rfl (lv_at hl 3 rfl) ?_
      refine lv_bipush (v := 40) hx hb dX1_make_14 (by decide) ?_
      refine lv_icmp_le hx hb dX1_make_16 (tgt := 23) (by decide) (fun hc => ?_) (fun hc => ?_)
      · skip
        refine lv_iconst (v := 0) hx hb dX1_make_23 (by decide) ?_
        refine va_put (D := (dC, dI)) (ci := 1) (v := .int 0) (ty := .int) (C := RX1) (T := TX1) (N := 12) hx hb hts inX1 tyX1 tyX1_ok nmX1 hown hK hP hD hS 0 rfl rfl 0 (by decide) (hts _ bw_fl_X1_36) (fun _ h9 => h9) rfl (by decide +kernel) rfl rfl (Nat.le_of_ble_eq_true rfl) dX1_make_24 (fun H locs hP hD hS => ?_)
        have hP : va_P (dC, dI) vwCl [(g0, .inr (1, [.int 0, .ref b1, .ref b2, .ref b3, .ref b4, .ref b5, .ref b6, .ref b7, .ref b8, .int ob, .int co, .int tp])), (b1, .inl (e1, 301, .inl kd)), (b2, .inl (e2, 301, .inl zs)), (b3, .inl (e3, 301, .inl od)), (b4, .inl (e4, 12040, .inl lk)), (b5, .inl (e5, 12040, .inr (.inl nu))), (b6, .inl (e6, 301, .inl rb)), (b7, .inl (e7, 16, .inl rg)), (b8, .inl (e8, 301, .inl td))] H := hP
        have hD : va_D A [(g0, .inr (1, [.int 0, .ref b1, .ref b2, .ref b3, .ref b4, .ref b5, .ref b6, .ref b7, .ref b8, .int ob, .int co, .int tp])), (b1, .inl (e1, 301, .inl kd)), (b2, .inl (e2, 301, .inl zs)), (b3, .inl (e3, 301, .inl od)), (b4, .inl (e4, 12040, .inl lk)), (b5, .inl (e5, 12040, .inr (.inl nu))), (b6, .inl (e6, 301, .inl rb)), (b7, .inl (e7, 16, .inl rg)), (b8, .inl (e8, 301, .inl td))] := hD
        refine lv_aload_n hx hb dX1_make_27 rfl (lv_at hl 0 rfl) ?_
        refine va_get (D := (dC, dI)) (ci := 1) (v := .int 0) (C := RX1) (T := TX1) (N := 12) hx hb hts inX1 hown hK hP 0 rfl rfl 0 (by decide) (hts _ bw_fl_X1_36) (fun _ h9 => h9) rfl dX1_make_28 ?_
        refine lv_if_eq hx hb dX1_make_31 (tgt := 36) (by decide) (fun hc => ?_) (fun hc => ?_)
        · skip
          refine lv_aload_n hx hb dX1_make_36 rfl (lv_at hl 0 rfl) ?_
          refine lv_iload_n hx hb dX1_make_37 rfl (lv_at hl 2 rfl) ?_
          refine lv_if_eq hx hb dX1_make_38 (tgt := 45) (by decide) (fun hc => ?_) (fun hc => ?_)
          · have hk2 : k = 2 := (hlk.resolve_right (fun h9 => h9.1 hc)).2
            refine lv_iconst (v := 2) hx hb dX1_make_45 (by decide) ?_
            refine hw_topi (y := nI k) (by rw [hk2]; decide) ?_
            exact tail46 () H locs ls (trivial) hP hD hS (lv_sub hl [0, 1, 2, 3] rfl)
          · have hk2 : k = 1 := (hlk.resolve_left (fun h9 => hc h9.1)).2
            refine lv_iconst (v := 1) hx hb dX1_make_41 (by decide) ?_
            refine lv_goto hx hb dX1_make_42 (tgt := 46) (by decide) ?_
            refine hw_topi (y := nI k) (by rw [hk2]; decide) ?_
            exact tail46 () H locs ls (trivial) hP hD hS (lv_sub hl [0, 1, 2, 3] rfl)
        · exact absurd rfl hc
      · exact absurd ((nI_leI (b := 40) (by omega) (by decide)).mpr hn) hc

set_option maxHeartbeats 4000000 in
set_option maxRecDepth 100000 in
theorem c1_X1_make (l : Launch) (dC : Nat → ClassId) (dI : Nat → Nat → Nat) (g0 b1 b2 b3 b4 b5 b6 b7 b8 : Nat) (e1 e2 e3 e4 e5 e6 e7 e8 : ClassId) (th : Int32) (kd zs od lk : Nat → Int32) (nu : Nat → Int64) (rb rg td : Nat → Int32) (ob co tp : Int32) (sz : Nat) (M : hp_S) (hW : hp_W M) (hQ : hp_Q M kd zs od lk nu rg ob co) (j n k : Nat) (y : Int32) (hj : j < 16) (hn : n ≤ 40) (hlk : y = 0 ∧ k = 2 ∨ ¬ y = 0 ∧ k = 1) (hfit : hp_tk (hp_rm M n) + (1 + n) ≤ 300) : Met l yX1_make wsX1_make ({ frames := 3, cells := 0, slots := 0, locals := 80 }) (va_Pc [.ref g0, .int (nI j), .int y, .int (nI n)] (hw_pre (dC, dI) vwCl [(e1, .int), (e2, .int), (e3, .int), (e4, .int), (e5, .long), (e6, .boolean), (e7, .int), (e8, .int)] [(g0, .inr (1, [.int th, .ref b1, .ref b2, .ref b3, .ref b4, .ref b5, .ref b6, .ref b7, .ref b8, .int ob, .int co, .int tp])), (b1, .inl (e1, 301, .inl kd)), (b2, .inl (e2, 301, .inl zs)), (b3, .inl (e3, 301, .inl od)), (b4, .inl (e4, 12040, .inl lk)), (b5, .inl (e5, 12040, .inr (.inl nu))), (b6, .inl (e6, 301, .inl rb)), (b7, .inl (e7, 16, .inl rg)), (b8, .inl (e8, 301, .inl td))] sz)) (va_Qi (fun (r : Int32) (u : Int32 × (Nat → Int32) × (Nat → Int32) × (Nat → Int32) × (Nat → Int32) × (Nat → Int64) × (Nat → Int32) × (Nat → Int32) × (Nat → Int32) × Int32 × Int32 × Int32) => ∃ o, 1 ≤ o ∧ o ≤ 300 ∧ o ∉ hp_L (hp_rm M n) ∧ r = nI (hp_tk (hp_rm M n)) ∧ u.1 = 0 ∧ hp_Q (hp_sr (hp_mk (hp_rm M n) o k n) j o) u.2.1 u.2.2.1 u.2.2.2.1 u.2.2.2.2.1 u.2.2.2.2.2.1 u.2.2.2.2.2.2.2.1 u.2.2.2.2.2.2.2.2.2.1 u.2.2.2.2.2.2.2.2.2.2.1) (fun u t => hw_B (dC, dI) vwCl [(e1, .int), (e2, .int), (e3, .int), (e4, .int), (e5, .long), (e6, .boolean), (e7, .int), (e8, .int)] (va_A [(g0, .inr (1, [.int th, .ref b1, .ref b2, .ref b3, .ref b4, .ref b5, .ref b6, .ref b7, .ref b8, .int ob, .int co, .int tp])), (b1, .inl (e1, 301, .inl kd)), (b2, .inl (e2, 301, .inl zs)), (b3, .inl (e3, 301, .inl od)), (b4, .inl (e4, 12040, .inl lk)), (b5, .inl (e5, 12040, .inr (.inl nu))), (b6, .inl (e6, 301, .inl rb)), (b7, .inl (e7, 16, .inl rg)), (b8, .inl (e8, 301, .inl td))] sz) ((fun u : Int32 × (Nat → Int32) × (Nat → Int32) × (Nat → Int32) × (Nat → Int32) × (Nat → Int64) × (Nat → Int32) × (Nat → Int32) × (Nat → Int32) × Int32 × Int32 × Int32 => [(g0, .inr (1, [.int u.1, .ref b1, .ref b2, .ref b3, .ref b4, .ref b5, .ref b6, .ref b7, .ref b8, .int u.2.2.2.2.2.2.2.2.2.1, .int u.2.2.2.2.2.2.2.2.2.2.1, .int u.2.2.2.2.2.2.2.2.2.2.2])), (b1, .inl (e1, 301, .inl u.2.1)), (b2, .inl (e2, 301, .inl u.2.2.1)), (b3, .inl (e3, 301, .inl u.2.2.2.1)), (b4, .inl (e4, 12040, .inl u.2.2.2.2.1)), (b5, .inl (e5, 12040, .inr (.inl u.2.2.2.2.2.1))), (b6, .inl (e6, 301, .inl u.2.2.2.2.2.2.1)), (b7, .inl (e7, 16, .inl u.2.2.2.2.2.2.2.1)), (b8, .inl (e8, 301, .inl u.2.2.2.2.2.2.2.2.1))]) u) t) (va_A [(g0, .inr (1, [.int th, .ref b1, .ref b2, .ref b3, .ref b4, .ref b5, .ref b6, .ref b7, .ref b8, .int ob, .int co, .int tp])), (b1, .inl (e1, 301, .inl kd)), (b2, .inl (e2, 301, .inl zs)), (b3, .inl (e3, 301, .inl od)), (b4, .inl (e4, 12040, .inl lk)), (b5, .inl (e5, 12040, .inr (.inl nu))), (b6, .inl (e6, 301, .inl rb)), (b7, .inl (e7, 16, .inl rg)), (b8, .inl (e8, 301, .inl td))] sz)) 0 0 (va_A [(g0, .inr (1, [.int th, .ref b1, .ref b2, .ref b3, .ref b4, .ref b5, .ref b6, .ref b7, .ref b8, .int ob, .int co, .int tp])), (b1, .inl (e1, 301, .inl kd)), (b2, .inl (e2, 301, .inl zs)), (b3, .inl (e3, 301, .inl od)), (b4, .inl (e4, 12040, .inl lk)), (b5, .inl (e5, 12040, .inr (.inl nu))), (b6, .inl (e6, 301, .inl rb)), (b7, .inl (e7, 16, .inl rg)), (b8, .inl (e8, 301, .inl td))] sz) := by
  refine Met.ofW (cc := cX1_make) (maxL := 5) (ret := some .int) (by decide) rfl ?_
  intro p e s m args below meth c s₁ B hml hv
  obtain ⟨hargs, hsz, hP, hK, hD0⟩ := hv
  have hx := B.exec
  have hb := B.bytes
  have hr := B.returns
  have hts : ∀ w ∈ wb, w.before _ s = true := fun w h => atoms_spec (ws := wsX1_make) B.pre w (List.mem_cons_of_mem _ h)
  have hown : s.vm.findClass RX1 = some m.cls := findClass_of_methodNamed B.named
  have hlocks := B.notSynchronized
  subst hsz
  have hD := hD0.self (sz := s.heap.size)
  generalize hAe : va_A [(g0, .inr (1, [.int th, .ref b1, .ref b2, .ref b3, .ref b4, .ref b5, .ref b6, .ref b7, .ref b8, .int ob, .int co, .int tp])), (b1, .inl (e1, 301, .inl kd)), (b2, .inl (e2, 301, .inl zs)), (b3, .inl (e3, 301, .inl od)), (b4, .inl (e4, 12040, .inl lk)), (b5, .inl (e5, 12040, .inr (.inl nu))), (b6, .inl (e6, 301, .inl rb)), (b7, .inl (e7, 16, .inl rg)), (b8, .inl (e8, 301, .inl td))] s.heap.size = A at hD ⊢
  have hA : ∀ q : Nat, s.heap.size ≤ q → A q := fun q h => by rw [← hAe]; exact Or.inr h
  have hS : va_S A s.heap s.heap [] := va_S.rf
  generalize hQ9 : MQ below (va_Qi (fun (r : Int32) (u : Int32 × (Nat → Int32) × (Nat → Int32) × (Nat → Int32) × (Nat → Int32) × (Nat → Int64) × (Nat → Int32) × (Nat → Int32) × (Nat → Int32) × Int32 × Int32 × Int32) => ∃ o, 1 ≤ o ∧ o ≤ 300 ∧ o ∉ hp_L (hp_rm M n) ∧ r = nI (hp_tk (hp_rm M n)) ∧ u.1 = 0 ∧ hp_Q (hp_sr (hp_mk (hp_rm M n) o k n) j o) u.2.1 u.2.2.1 u.2.2.2.1 u.2.2.2.2.1 u.2.2.2.2.2.1 u.2.2.2.2.2.2.2.1 u.2.2.2.2.2.2.2.2.2.1 u.2.2.2.2.2.2.2.2.2.2.1) (fun u t => hw_B (dC, dI) vwCl [(e1, .int), (e2, .int), (e3, .int), (e4, .int), (e5, .long), (e6, .boolean), (e7, .int), (e8, .int)] A ((fun u : Int32 × (Nat → Int32) × (Nat → Int32) × (Nat → Int32) × (Nat → Int32) × (Nat → Int64) × (Nat → Int32) × (Nat → Int32) × (Nat → Int32) × Int32 × Int32 × Int32 => [(g0, .inr (1, [.int u.1, .ref b1, .ref b2, .ref b3, .ref b4, .ref b5, .ref b6, .ref b7, .ref b8, .int u.2.2.2.2.2.2.2.2.2.1, .int u.2.2.2.2.2.2.2.2.2.2.1, .int u.2.2.2.2.2.2.2.2.2.2.2])), (b1, .inl (e1, 301, .inl u.2.1)), (b2, .inl (e2, 301, .inl u.2.2.1)), (b3, .inl (e3, 301, .inl u.2.2.2.1)), (b4, .inl (e4, 12040, .inl u.2.2.2.2.1)), (b5, .inl (e5, 12040, .inr (.inl u.2.2.2.2.2.1))), (b6, .inl (e6, 301, .inl u.2.2.2.2.2.2.1)), (b7, .inl (e7, 16, .inl u.2.2.2.2.2.2.2.1)), (b8, .inl (e8, 301, .inl u.2.2.2.2.2.2.2.2.1))]) u) t) A) args s 0 0 A = Q9
  have hl := lv_entry ([.ref g0, .int (nI j), .int y, .int (nI n)]) (n := 5) (Nat.le_of_ble_eq_true rfl)
  rw [show entryFrame m args 5 = _ from (congrArg (fun z => entryFrame m z 5) hargs).trans (lg_entry_eq m [.ref g0, .int (nI j), .int y, .int (nI n)] 5)]
  generalize (lg_sl ([.ref g0, .int (nI j), .int y, .int (nI n)]) ++ List.replicate (5 - (lg_sl ([.ref g0, .int (nI j), .int y, .int (nI n)])).length) Slot.unset).toArray = ls at hl ⊢
  have hl : lv_has ls 5 [(0, .ref g0), (1, .int (nI j)), (2, .int y), (3, .int (nI n))] := hl
  obtain ⟨H, hH⟩ : ∃ H, H = s.heap := ⟨_, rfl⟩
  rw [← hH] at hP
  have hS : va_S A s.heap H [] := by rw [hH]; exact hS
  rw [← hH]
  generalize ([] : List Loc) = locs at hS ⊢
  have hW1 := hp_rm_W hW n
  have hk4 : k < 4 := by omega
  have hk1 : 1 ≤ k := by omega
  have hw3 : k = 3 → n = 1 := fun h9 => by omega
  have tail46 : ∀ (z9 : Unit) (H : Heap) (locs : List Loc) (ls : Array Slot), (True) → va_P (dC, dI) vwCl [(g0, .inr (1, [.int 0, .ref b1, .ref b2, .ref b3, .ref b4, .ref b5, .ref b6, .ref b7, .ref b8, .int ob, .int co, .int tp])), (b1, .inl (e1, 301, .inl kd)), (b2, .inl (e2, 301, .inl zs)), (b3, .inl (e3, 301, .inl od)), (b4, .inl (e4, 12040, .inl lk)), (b5, .inl (e5, 12040, .inr (.inl nu))), (b6, .inl (e6, 301, .inl rb)), (b7, .inl (e7, 16, .inl rg)), (b8, .inl (e8, 301, .inl td))] H → va_D A [(g0, .inr (1, [.int 0, .ref b1, .ref b2, .ref b3, .ref b4, .ref b5, .ref b6, .ref b7, .ref b8, .int ob, .int co, .int tp])), (b1, .inl (e1, 301, .inl kd)), (b2, .inl (e2, 301, .inl zs)), (b3, .inl (e3, 301, .inl od)), (b4, .inl (e4, 12040, .inl lk)), (b5, .inl (e5, 12040, .inr (.inl nu))), (b6, .inl (e6, 301, .inl rb)), (b7, .inl (e7, 16, .inl rg)), (b8, .inl (e8, 301, .inl td))] → va_S A s.heap H locs → lv_has ls 5 [(0, .ref g0), (1, .int (nI j)), (2, .int y), (3, .int (nI n))] → W p l e (headSpec wsX1_make ({ frames := 3, cells := 0, slots := 0, locals := 80 })).room s m args below meth c H locs 0 0 Q9 (F0 m 46 ls [.int (nI k), .ref g0]) := by
    intro z9 H locs ls hI hP hD hS hl
    refine lv_iload_n hx hb dX1_make_46 rfl (lv_at hl 3 rfl) ?_
    refine hw_calli (va_runV (As := [.int (nI k), .int (nI n)]) (rest := []) ⟨hx, hb, hml, hown, hts⟩ (c1_X1_made l dC dI g0 b1 b2 b3 b4 b5 b6 b7 b8 e1 e2 e3 e4 e5 e6 e7 e8 0 kd zs od lk nu rb rg td ob co tp _ M hW hQ k n hk1 hk4 hn hw3 hfit) (cwV 2 hts gw_X1_68 rfl rfl rfl ⟨rfl, by decide, by decide, by decide +kernel⟩ ⟨Nat.le_of_ble_eq_true rfl, Nat.le_of_ble_eq_true rfl⟩) ⟨hw_blind, va_recv (q0 := 0) (ci := 1) (q := (RX1, TX1, 12)) hK hP rfl rfl, hw_pay hP hK hD⟩ rfl rfl hl.1 rfl (lv_room (Nat.le_of_ble_eq_true rfl)) dX1_make_47 ⟨by decide, by decide⟩) hD hS hA (fun r9 u9 H locs hw hP hD hS => ?_)
    obtain ⟨th, kd, zs, od, lk, nu, rb, rg, td, ob, co, tp⟩ := u9
    have hP : va_P (dC, dI) vwCl [(g0, .inr (1, [.int th, .ref b1, .ref b2, .ref b3, .ref b4, .ref b5, .ref b6, .ref b7, .ref b8, .int ob, .int co, .int tp])), (b1, .inl (e1, 301, .inl kd)), (b2, .inl (e2, 301, .inl zs)), (b3, .inl (e3, 301, .inl od)), (b4, .inl (e4, 12040, .inl lk)), (b5, .inl (e5, 12040, .inr (.inl nu))), (b6, .inl (e6, 301, .inl rb)), (b7, .inl (e7, 16, .inl rg)), (b8, .inl (e8, 301, .inl td))] H := hP
    have hD : va_D A [(g0, .inr (1, [.int th, .ref b1, .ref b2, .ref b3, .ref b4, .ref b5, .ref b6, .ref b7, .ref b8, .int ob, .int co, .int tp])), (b1, .inl (e1, 301, .inl kd)), (b2, .inl (e2, 301, .inl zs)), (b3, .inl (e3, 301, .inl od)), (b4, .inl (e4, 12040, .inl lk)), (b5, .inl (e5, 12040, .inr (.inl nu))), (b6, .inl (e6, 301, .inl rb)), (b7, .inl (e7, 16, .inl rg)), (b8, .inl (e8, 301, .inl td))] := hD
    obtain ⟨o, ho1, ho2, ho3, hr9, hQ1⟩ := hw
    refine hw_topi (y := nI o) (hr9) ?_
    refine lv_istore hx hb dX1_make_50 hl (by decide) rfl (fun ls hl => ?_)
    have hl : lv_has ls 5 [(4, .int (nI o)), (0, .ref g0), (1, .int (nI j)), (2, .int y), (3, .int (nI n))] := hl
    refine lv_aload_n hx hb dX1_make_52 rfl (lv_at hl 1 rfl) ?_
    refine lv_iload hx hb dX1_make_53 (lv_at hl 0 rfl) ?_
    refine lv_if_ne hx hb dX1_make_55 (tgt := 62) (by decide) (fun hc => ?_) (fun hc => ?_)
    · skip
      refine lv_iconst (v := 0) hx hb dX1_make_62 (by decide) ?_
      refine va_put (D := (dC, dI)) (ci := 1) (v := .int 0) (ty := .int) (C := RX1) (T := TX1) (N := 12) hx hb hts inX1 tyX1 tyX1_ok nmX1 hown hK hP hD hS 0 rfl rfl 0 (by decide) (hts _ bw_fl_X1_36) (fun _ h9 => h9) rfl (by decide +kernel) rfl rfl (Nat.le_of_ble_eq_true rfl) dX1_make_63 (fun H locs hP hD hS => ?_)
      have hP : va_P (dC, dI) vwCl [(g0, .inr (1, [.int 0, .ref b1, .ref b2, .ref b3, .ref b4, .ref b5, .ref b6, .ref b7, .ref b8, .int ob, .int co, .int tp])), (b1, .inl (e1, 301, .inl kd)), (b2, .inl (e2, 301, .inl zs)), (b3, .inl (e3, 301, .inl od)), (b4, .inl (e4, 12040, .inl lk)), (b5, .inl (e5, 12040, .inr (.inl nu))), (b6, .inl (e6, 301, .inl rb)), (b7, .inl (e7, 16, .inl rg)), (b8, .inl (e8, 301, .inl td))] H := hP
      have hD : va_D A [(g0, .inr (1, [.int 0, .ref b1, .ref b2, .ref b3, .ref b4, .ref b5, .ref b6, .ref b7, .ref b8, .int ob, .int co, .int tp])), (b1, .inl (e1, 301, .inl kd)), (b2, .inl (e2, 301, .inl zs)), (b3, .inl (e3, 301, .inl od)), (b4, .inl (e4, 12040, .inl lk)), (b5, .inl (e5, 12040, .inr (.inl nu))), (b6, .inl (e6, 301, .inl rb)), (b7, .inl (e7, 16, .inl rg)), (b8, .inl (e8, 301, .inl td))] := hD
      refine lv_iload hx hb dX1_make_66 (lv_at hl 0 rfl) ?_
      refine lv_if_ne hx hb dX1_make_68 (tgt := 73) (by decide) (fun hc => ?_) (fun hc => ?_)
      · skip
        refine lv_aload_n hx hb dX1_make_73 rfl (lv_at hl 1 rfl) ?_
        refine va_get (D := (dC, dI)) (ci := 1) (v := .ref b7) (C := RX1) (T := TX1) (N := 12) hx hb hts inX1 hown hK hP 0 rfl rfl 7 (by decide) (hts _ bw_fl_X1_30) (fun _ h9 => h9) rfl dX1_make_74 ?_
        refine lv_iload_n hx hb dX1_make_77 rfl (lv_at hl 2 rfl) ?_
        refine lv_iload hx hb dX1_make_78 (lv_at hl 0 rfl) ?_
        refine hw_iast (j := j) hx hb hK hP hD hS 7 6 rfl rfl (rfl) (hj) (by decide) dX1_make_80 (fun H locs hP hD hS => ?_)
        have hP : va_P (dC, dI) vwCl [(g0, .inr (1, [.int 0, .ref b1, .ref b2, .ref b3, .ref b4, .ref b5, .ref b6, .ref b7, .ref b8, .int ob, .int co, .int tp])), (b1, .inl (e1, 301, .inl kd)), (b2, .inl (e2, 301, .inl zs)), (b3, .inl (e3, 301, .inl od)), (b4, .inl (e4, 12040, .inl lk)), (b5, .inl (e5, 12040, .inr (.inl nu))), (b6, .inl (e6, 301, .inl rb)), (b7, .inl (e7, 16, .inl (upd rg j (nI o)))), (b8, .inl (e8, 301, .inl td))] H := hP
        have hD : va_D A [(g0, .inr (1, [.int 0, .ref b1, .ref b2, .ref b3, .ref b4, .ref b5, .ref b6, .ref b7, .ref b8, .int ob, .int co, .int tp])), (b1, .inl (e1, 301, .inl kd)), (b2, .inl (e2, 301, .inl zs)), (b3, .inl (e3, 301, .inl od)), (b4, .inl (e4, 12040, .inl lk)), (b5, .inl (e5, 12040, .inr (.inl nu))), (b6, .inl (e6, 301, .inl rb)), (b7, .inl (e7, 16, .inl (upd rg j (nI o)))), (b8, .inl (e8, 301, .inl td))] := hD
        refine lv_aload_n hx hb dX1_make_81 rfl (lv_at hl 1 rfl) ?_
        refine lv_iload hx hb dX1_make_82 (lv_at hl 0 rfl) ?_
        refine W.callR (W.runV (As := [.int (nI o)]) (rest := []) ⟨hx, hb, hml, hown, hts⟩ (c_X1_placeOf l dC dI g0 b1 b2 b3 b4 b5 b6 b7 b8 e1 e2 e3 e4 e5 e6 e7 e8 0 kd zs od lk nu rb (upd rg j (nI o)) td ob co tp _ (hp_sr (hp_mk (hp_rm M n) o k n) j o) (hp_mks_W hW1 ho3 ho1 ho2 hk1 (by omega) hn hw3 hfit) (hp_sr_Q hQ1 j o) o (hp_mkin (hp_rm M n) o k n)) (cwV 1 hts gw_X1_72 rfl rfl rfl ⟨rfl, by decide, by decide, by decide +kernel⟩ ⟨Nat.le_of_ble_eq_true rfl, Nat.le_of_ble_eq_true rfl⟩) ⟨hw_blind, va_recv (q0 := 0) (ci := 1) (q := (RX1, TX1, 12)) hK hP rfl rfl, hw_pay hP hK hD⟩ rfl rfl hl.1 rfl (lv_room (Nat.le_of_ble_eq_true rfl)) dX1_make_84 ⟨by decide, by decide⟩) ?_
        refine W.eq (g2 := F0 m 87 ls [.int (nI (hp_pl (hp_sr (hp_mk (hp_rm M n) o k n) j o) o))]) rfl ?_
        refine hw_topi (y := nI (hp_tk (hp_rm M n))) (by rw [show hp_pl (hp_sr (hp_mk (hp_rm M n) o k n) j o) o = hp_tk (hp_rm M n) from hp_mk_plo (k := k) ho3]) ?_
        subst hQ9
        exact W.iret (v := nI (hp_tk (hp_rm M n))) hx hb hr (fun t ht hWm => ⟨⟨nI (hp_tk (hp_rm M n)), (0, kd, zs, od, lk, nu, rb, (upd rg j (nI o)), td, ob, co, tp), rfl, ⟨o, ho1, ho2, ho3, rfl, rfl, hp_sr_Q hQ1 j o⟩, by rw [ht]; exact hP, va_K.moved hWm.alike hK, hD⟩, hS.F ht⟩) hS.2.2 dX1_make_87
      · exact absurd hc (hp_onz ho1 ho2)
    · exact absurd hc (hp_onz ho1 ho2)
  refine lv_aload_n hx hb dX1_make_0 rfl (lv_at hl 0 rfl) ?_
  refine lv_aload_n hx hb dX1_make_1 rfl (lv_at hl 0 rfl) ?_
  refine lv_iload_n hx hb dX1_make_2 rfl (lv_at hl 1 rfl) ?_
  refine W.callR (W.runV (As := [.int (nI j)]) (rest := [.ref g0]) ⟨hx, hb, hml, hown, hts⟩ (c1_X1_isRegister l dC dI g0 b1 b2 b3 b4 b5 b6 b7 b8 e1 e2 e3 e4 e5 e6 e7 e8 th kd zs od lk nu rb rg td ob co tp _ (hp_ok2 hj (by decide))) (cwV 1 hts gw_X1_64 rfl rfl rfl ⟨rfl, by decide, by decide, by decide +kernel⟩ ⟨Nat.le_of_ble_eq_true rfl, Nat.le_of_ble_eq_true rfl⟩) ⟨hw_blind, va_recv (q0 := 0) (ci := 1) (q := (RX1, TX1, 12)) hK hP rfl rfl, hw_pay hP hK hD⟩ rfl rfl hl.1 rfl (lv_room (Nat.le_of_ble_eq_true rfl)) dX1_make_3 ⟨by decide, by decide⟩) ?_
  refine W.eq (g2 := F0 m 6 ls [.int 1, .ref g0]) rfl ?_
  refine lv_if_eq hx hb dX1_make_6 (tgt := 19) (by decide) (fun hc => ?_) (fun hc => ?_)
  · exact absurd hc hp_10
  · skip
    refine lv_iload_n hx hb dX1_make_9 rfl (lv_at hl 3 rfl) ?_
    refine lv_if_lt hx hb dX1_make_10 (tgt := 19) (by decide) (fun hc => ?_) (fun hc => ?_)
    · exact absurd hc (nI_pos (by omega))
    · skip
      refine lv_iload_n hx hb dX1_make_13 rfl (lv_at hl 3 rfl) ?_
      refine lv_bipush (v := 40) hx hb dX1_make_14 (by decide) ?_
      refine lv_icmp_le hx hb dX1_make_16 (tgt := 23) (by decide) (fun hc => ?_) (fun hc => ?_)
      · skip
        refine lv_iconst (v := 0) hx hb dX1_make_23 (by decide) ?_
        refine va_put (D := (dC, dI)) (ci := 1) (v := .int 0) (ty := .int) (C := RX1) (T := TX1) (N := 12) hx hb hts inX1 tyX1 tyX1_ok nmX1 hown hK hP hD hS 0 rfl rfl 0 (by decide) (hts _ bw_fl_X1_36) (fun _ h9 => h9) rfl (by decide +kernel) rfl rfl (Nat.le_of_ble_eq_true rfl) dX1_make_24 (fun H locs hP hD hS => ?_)
        have hP : va_P (dC, dI) vwCl [(g0, .inr (1, [.int 0, .ref b1, .ref b2, .ref b3, .ref b4, .ref b5, .ref b6, .ref b7, .ref b8, .int ob, .int co, .int tp])), (b1, .inl (e1, 301, .inl kd)), (b2, .inl (e2, 301, .inl zs)), (b3, .inl (e3, 301, .inl od)), (b4, .inl (e4, 12040, .inl lk)), (b5, .inl (e5, 12040, .inr (.inl nu))), (b6, .inl (e6, 301, .inl rb)), (b7, .inl (e7, 16, .inl rg)), (b8, .inl (e8, 301, .inl td))] H := hP
        have hD : va_D A [(g0, .inr (1, [.int 0, .ref b1, .ref b2, .ref b3, .ref b4, .ref b5, .ref b6, .ref b7, .ref b8, .int ob, .int co, .int tp])), (b1, .inl (e1, 301, .inl kd)), (b2, .inl (e2, 301, .inl zs)), (b3, .inl (e3, 301, .inl od)), (b4, .inl (e4, 12040, .inl lk)), (b5, .inl (e5, 12040, .inr (.inl nu))), (b6, .inl (e6, 301, .inl rb)), (b7, .inl (e7, 16, .inl rg)), (b8, .inl (e8, 301, .inl td))] := hD
        refine lv_aload_n hx hb dX1_make_27 rfl (lv_at hl 0 rfl) ?_
        refine va_get (D := (dC, dI)) (ci := 1) (v := .int 0) (C := RX1) (T := TX1) (N := 12) hx hb hts inX1 hown hK hP 0 rfl rfl 0 (by decide) (hts _ bw_fl_X1_36) (fun _ h9 => h9) rfl dX1_make_28 ?_
        refine lv_if_eq hx hb dX1_make_31 (tgt := 36) (by decide) (fun hc => ?_) (fun hc => ?_)
        · skip
          refine lv_aload_n hx hb dX1_make_36 rfl (lv_at hl 0 rfl) ?_
          refine lv_iload_n hx hb dX1_make_37 rfl (lv_at hl 2 rfl) ?_
          refine lv_if_eq hx hb dX1_make_38 (tgt := 45) (by decide) (fun hc => ?_) (fun hc => ?_)
          · have hk2 : k = 2 := (hlk.resolve_right (fun h9 => h9.1 hc)).2
            refine lv_iconst (v := 2) hx hb dX1_make_45 (by decide) ?_
            refine hw_topi (y := nI k) (by rw [hk2]; decide) ?_
            exact tail46 () H locs ls (trivial) hP hD hS (lv_sub hl [0, 1, 2, 3] rfl)
          · have hk2 : k = 1 := (hlk.resolve_left (fun h9 => hc h9.1)).2
            refine lv_iconst (v := 1) hx hb dX1_make_41 (by decide) ?_
            refine lv_goto hx hb dX1_make_42 (tgt := 46) (by decide) ?_
            refine hw_topi (y := nI k) (by rw [hk2]; decide) ?_
            exact tail46 () H locs ls (trivial) hP hD hS (lv_sub hl [0, 1, 2, 3] rfl)
        · exact absurd rfl hc
      · exact absurd ((nI_leI (b := 40) (by omega) (by decide)).mpr hn) hc

set_option maxHeartbeats 4000000 in
set_option maxRecDepth 100000 in
theorem c0_X1_weak (l : Launch) (dC : Nat → ClassId) (dI : Nat → Nat → Nat) (g0 b1 b2 b3 b4 b5 b6 b7 b8 : Nat) (e1 e2 e3 e4 e5 e6 e7 e8 : ClassId) (th : Int32) (kd zs od lk : Nat → Int32) (nu : Nat → Int64) (rb rg td : Nat → Int32) (ob co tp : Int32) (sz : Nat) (M : hp_S) (hW : hp_W M) (hQ : hp_Q M kd zs od lk nu rg ob co) (r y : Int32) (k : Nat) (hk : (hp_bad r 16 ∨ hp_bad y 16) ∧ k = 1 ∨ ¬ (hp_bad r 16 ∨ hp_bad y 16) ∧ hp_at M y = 0 ∧ k = 3) : Met l yX1_weak wsX1_weak ({ frames := 1, cells := 0, slots := 0, locals := 21 }) (va_Pc [.ref g0, .int r, .int y] (hw_pre (dC, dI) vwCl [(e1, .int), (e2, .int), (e3, .int), (e4, .int), (e5, .long), (e6, .boolean), (e7, .int), (e8, .int)] [(g0, .inr (1, [.int th, .ref b1, .ref b2, .ref b3, .ref b4, .ref b5, .ref b6, .ref b7, .ref b8, .int ob, .int co, .int tp])), (b1, .inl (e1, 301, .inl kd)), (b2, .inl (e2, 301, .inl zs)), (b3, .inl (e3, 301, .inl od)), (b4, .inl (e4, 12040, .inl lk)), (b5, .inl (e5, 12040, .inr (.inl nu))), (b6, .inl (e6, 301, .inl rb)), (b7, .inl (e7, 16, .inl rg)), (b8, .inl (e8, 301, .inl td))] sz)) (va_Qi (fun (_ u : Int32) => u = nI k) (fun u t => hw_B (dC, dI) vwCl [(e1, .int), (e2, .int), (e3, .int), (e4, .int), (e5, .long), (e6, .boolean), (e7, .int), (e8, .int)] (va_A [(g0, .inr (1, [.int th, .ref b1, .ref b2, .ref b3, .ref b4, .ref b5, .ref b6, .ref b7, .ref b8, .int ob, .int co, .int tp])), (b1, .inl (e1, 301, .inl kd)), (b2, .inl (e2, 301, .inl zs)), (b3, .inl (e3, 301, .inl od)), (b4, .inl (e4, 12040, .inl lk)), (b5, .inl (e5, 12040, .inr (.inl nu))), (b6, .inl (e6, 301, .inl rb)), (b7, .inl (e7, 16, .inl rg)), (b8, .inl (e8, 301, .inl td))] sz) ((fun u : Int32 => [(g0, .inr (1, [.int u, .ref b1, .ref b2, .ref b3, .ref b4, .ref b5, .ref b6, .ref b7, .ref b8, .int ob, .int co, .int tp])), (b1, .inl (e1, 301, .inl kd)), (b2, .inl (e2, 301, .inl zs)), (b3, .inl (e3, 301, .inl od)), (b4, .inl (e4, 12040, .inl lk)), (b5, .inl (e5, 12040, .inr (.inl nu))), (b6, .inl (e6, 301, .inl rb)), (b7, .inl (e7, 16, .inl rg)), (b8, .inl (e8, 301, .inl td))]) u) t) (va_A [(g0, .inr (1, [.int th, .ref b1, .ref b2, .ref b3, .ref b4, .ref b5, .ref b6, .ref b7, .ref b8, .int ob, .int co, .int tp])), (b1, .inl (e1, 301, .inl kd)), (b2, .inl (e2, 301, .inl zs)), (b3, .inl (e3, 301, .inl od)), (b4, .inl (e4, 12040, .inl lk)), (b5, .inl (e5, 12040, .inr (.inl nu))), (b6, .inl (e6, 301, .inl rb)), (b7, .inl (e7, 16, .inl rg)), (b8, .inl (e8, 301, .inl td))] sz)) 0 0 (va_A [(g0, .inr (1, [.int th, .ref b1, .ref b2, .ref b3, .ref b4, .ref b5, .ref b6, .ref b7, .ref b8, .int ob, .int co, .int tp])), (b1, .inl (e1, 301, .inl kd)), (b2, .inl (e2, 301, .inl zs)), (b3, .inl (e3, 301, .inl od)), (b4, .inl (e4, 12040, .inl lk)), (b5, .inl (e5, 12040, .inr (.inl nu))), (b6, .inl (e6, 301, .inl rb)), (b7, .inl (e7, 16, .inl rg)), (b8, .inl (e8, 301, .inl td))] sz) := by
  refine Met.ofW (cc := cX1_weak) (maxL := 4) (ret := some .int) (by decide) rfl ?_
  intro p e s m args below meth c s₁ B hml hv
  obtain ⟨hargs, hsz, hP, hK, hD0⟩ := hv
  have hx := B.exec
  have hb := B.bytes
  have hr := B.returns
  have hts : ∀ w ∈ wb, w.before _ s = true := fun w h => atoms_spec (ws := wsX1_weak) B.pre w (List.mem_cons_of_mem _ h)
  have hown : s.vm.findClass RX1 = some m.cls := findClass_of_methodNamed B.named
  have hlocks := B.notSynchronized
  subst hsz
  have hD := hD0.self (sz := s.heap.size)
  generalize hAe : va_A [(g0, .inr (1, [.int th, .ref b1, .ref b2, .ref b3, .ref b4, .ref b5, .ref b6, .ref b7, .ref b8, .int ob, .int co, .int tp])), (b1, .inl (e1, 301, .inl kd)), (b2, .inl (e2, 301, .inl zs)), (b3, .inl (e3, 301, .inl od)), (b4, .inl (e4, 12040, .inl lk)), (b5, .inl (e5, 12040, .inr (.inl nu))), (b6, .inl (e6, 301, .inl rb)), (b7, .inl (e7, 16, .inl rg)), (b8, .inl (e8, 301, .inl td))] s.heap.size = A at hD ⊢
  have hA : ∀ q : Nat, s.heap.size ≤ q → A q := fun q h => by rw [← hAe]; exact Or.inr h
  have hS : va_S A s.heap s.heap [] := va_S.rf
  generalize hQ9 : MQ below (va_Qi (fun (_ u : Int32) => u = nI k) (fun u t => hw_B (dC, dI) vwCl [(e1, .int), (e2, .int), (e3, .int), (e4, .int), (e5, .long), (e6, .boolean), (e7, .int), (e8, .int)] A ((fun u : Int32 => [(g0, .inr (1, [.int u, .ref b1, .ref b2, .ref b3, .ref b4, .ref b5, .ref b6, .ref b7, .ref b8, .int ob, .int co, .int tp])), (b1, .inl (e1, 301, .inl kd)), (b2, .inl (e2, 301, .inl zs)), (b3, .inl (e3, 301, .inl od)), (b4, .inl (e4, 12040, .inl lk)), (b5, .inl (e5, 12040, .inr (.inl nu))), (b6, .inl (e6, 301, .inl rb)), (b7, .inl (e7, 16, .inl rg)), (b8, .inl (e8, 301, .inl td))]) u) t) A) args s 0 0 A = Q9
  have hl := lv_entry ([.ref g0, .int r, .int y]) (n := 4) (Nat.le_of_ble_eq_true rfl)
  rw [show entryFrame m args 4 = _ from (congrArg (fun z => entryFrame m z 4) hargs).trans (lg_entry_eq m [.ref g0, .int r, .int y] 4)]
  generalize (lg_sl ([.ref g0, .int r, .int y]) ++ List.replicate (4 - (lg_sl ([.ref g0, .int r, .int y])).length) Slot.unset).toArray = ls at hl ⊢
  have hl : lv_has ls 4 [(0, .ref g0), (1, .int r), (2, .int y)] := hl
  obtain ⟨H, hH⟩ : ∃ H, H = s.heap := ⟨_, rfl⟩
  rw [← hH] at hP
  have hS : va_S A s.heap H [] := by rw [hH]; exact hS
  rw [← hH]
  generalize ([] : List Loc) = locs at hS ⊢
  have hk4 : k < 4 := by omega
  have hk0 : k ≠ 0 := by omega
  have tail : ∀ (z9 : Unit) (H : Heap) (locs : List Loc) (ls : Array Slot), (True) → va_P (dC, dI) vwCl [(g0, .inr (1, [.int th, .ref b1, .ref b2, .ref b3, .ref b4, .ref b5, .ref b6, .ref b7, .ref b8, .int ob, .int co, .int tp])), (b1, .inl (e1, 301, .inl kd)), (b2, .inl (e2, 301, .inl zs)), (b3, .inl (e3, 301, .inl od)), (b4, .inl (e4, 12040, .inl lk)), (b5, .inl (e5, 12040, .inr (.inl nu))), (b6, .inl (e6, 301, .inl rb)), (b7, .inl (e7, 16, .inl rg)), (b8, .inl (e8, 301, .inl td))] H → va_D A [(g0, .inr (1, [.int th, .ref b1, .ref b2, .ref b3, .ref b4, .ref b5, .ref b6, .ref b7, .ref b8, .int ob, .int co, .int tp])), (b1, .inl (e1, 301, .inl kd)), (b2, .inl (e2, 301, .inl zs)), (b3, .inl (e3, 301, .inl od)), (b4, .inl (e4, 12040, .inl lk)), (b5, .inl (e5, 12040, .inr (.inl nu))), (b6, .inl (e6, 301, .inl rb)), (b7, .inl (e7, 16, .inl rg)), (b8, .inl (e8, 301, .inl td))] → va_S A s.heap H locs → lv_has ls 4 [(0, .ref g0), (1, .int r), (2, .int y)] → W p l e (headSpec wsX1_weak ({ frames := 1, cells := 0, slots := 0, locals := 21 })).room s m args below meth c H locs 0 0 Q9 (F0 m 35 ls [.int (nI k), .ref g0]) := by
    intro z9 H locs ls hI hP hD hS hl
    refine va_put (D := (dC, dI)) (ci := 1) (v := .int (nI k)) (ty := .int) (C := RX1) (T := TX1) (N := 12) hx hb hts inX1 tyX1 tyX1_ok nmX1 hown hK hP hD hS 0 rfl rfl 0 (by decide) (hts _ bw_fl_X1_36) (fun _ h9 => h9) rfl (by decide +kernel) rfl rfl (Nat.le_of_ble_eq_true rfl) dX1_weak_35 (fun H locs hP hD hS => ?_)
    have hP : va_P (dC, dI) vwCl [(g0, .inr (1, [.int (nI k), .ref b1, .ref b2, .ref b3, .ref b4, .ref b5, .ref b6, .ref b7, .ref b8, .int ob, .int co, .int tp])), (b1, .inl (e1, 301, .inl kd)), (b2, .inl (e2, 301, .inl zs)), (b3, .inl (e3, 301, .inl od)), (b4, .inl (e4, 12040, .inl lk)), (b5, .inl (e5, 12040, .inr (.inl nu))), (b6, .inl (e6, 301, .inl rb)), (b7, .inl (e7, 16, .inl rg)), (b8, .inl (e8, 301, .inl td))] H := hP
    have hD : va_D A [(g0, .inr (1, [.int (nI k), .ref b1, .ref b2, .ref b3, .ref b4, .ref b5, .ref b6, .ref b7, .ref b8, .int ob, .int co, .int tp])), (b1, .inl (e1, 301, .inl kd)), (b2, .inl (e2, 301, .inl zs)), (b3, .inl (e3, 301, .inl od)), (b4, .inl (e4, 12040, .inl lk)), (b5, .inl (e5, 12040, .inr (.inl nu))), (b6, .inl (e6, 301, .inl rb)), (b7, .inl (e7, 16, .inl rg)), (b8, .inl (e8, 301, .inl td))] := hD
    refine lv_aload_n hx hb dX1_weak_38 rfl (lv_at hl 0 rfl) ?_
    refine va_get (D := (dC, dI)) (ci := 1) (v := .int (nI k)) (C := RX1) (T := TX1) (N := 12) hx hb hts inX1 hown hK hP 0 rfl rfl 0 (by decide) (hts _ bw_fl_X1_36) (fun _ h9 => h9) rfl dX1_weak_39 ?_
    refine lv_if_eq hx hb dX1_weak_42 (tgt := 47) (by decide) (fun hc => ?_) (fun hc => ?_)
    · exact absurd ((hp_k0 hk4).mp hc) hk0
    · skip
      refine lv_iconst (v := 0) hx hb dX1_weak_45 (by decide) ?_
      subst hQ9
      exact W.iret (v := 0) hx hb hr (fun t ht hWm => ⟨⟨0, (nI k), rfl, rfl, by rw [ht]; exact hP, va_K.moved hWm.alike hK, hD⟩, hS.F ht⟩) hS.2.2 dX1_weak_46
  refine lv_aload_n hx hb dX1_weak_0 rfl (lv_at hl 0 rfl) ?_
  refine lv_aload_n hx hb dX1_weak_1 rfl (lv_at hl 0 rfl) ?_
  refine lv_iload_n hx hb dX1_weak_2 rfl (lv_at hl 1 rfl) ?_
  by_cases hr1 : hp_bad r 16
  · skip
    refine W.callR (W.runV (As := [.int r]) (rest := [.ref g0]) ⟨hx, hb, hml, hown, hts⟩ (c0_X1_isRegister l dC dI g0 b1 b2 b3 b4 b5 b6 b7 b8 e1 e2 e3 e4 e5 e6 e7 e8 th kd zs od lk nu rb rg td ob co tp _ hr1) (cwV 1 hts gw_X1_64 rfl rfl rfl ⟨rfl, by decide, by decide, by decide +kernel⟩ ⟨Nat.le_of_ble_eq_true rfl, Nat.le_of_ble_eq_true rfl⟩) ⟨hw_blind, va_recv (q0 := 0) (ci := 1) (q := (RX1, TX1, 12)) hK hP rfl rfl, hw_pay hP hK hD⟩ rfl rfl hl.1 rfl (lv_room (Nat.le_of_ble_eq_true rfl)) dX1_weak_3 ⟨by decide, by decide⟩) ?_
    refine W.eq (g2 := F0 m 6 ls [.int 0, .ref g0]) rfl ?_
    refine lv_if_eq hx hb dX1_weak_6 (tgt := 17) (by decide) (fun hc => ?_) (fun hc => ?_)
    · skip
      refine lv_iconst (v := 1) hx hb dX1_weak_17 (by decide) ?_
      refine lv_goto hx hb dX1_weak_18 (tgt := 35) (by decide) ?_
      refine hw_topi (y := nI k) (by rw [(hk.resolve_right (fun h9 => h9.1 (Or.inl hr1))).2]; decide) ?_
      exact tail () H locs ls (trivial) hP hD hS (lv_sub hl [0, 1, 2] rfl)
    · exact absurd rfl hc
  · skip
    refine W.callR (W.runV (As := [.int r]) (rest := [.ref g0]) ⟨hx, hb, hml, hown, hts⟩ (c1_X1_isRegister l dC dI g0 b1 b2 b3 b4 b5 b6 b7 b8 e1 e2 e3 e4 e5 e6 e7 e8 th kd zs od lk nu rb rg td ob co tp _ hr1) (cwV 1 hts gw_X1_64 rfl rfl rfl ⟨rfl, by decide, by decide, by decide +kernel⟩ ⟨Nat.le_of_ble_eq_true rfl, Nat.le_of_ble_eq_true rfl⟩) ⟨hw_blind, va_recv (q0 := 0) (ci := 1) (q := (RX1, TX1, 12)) hK hP rfl rfl, hw_pay hP hK hD⟩ rfl rfl hl.1 rfl (lv_room (Nat.le_of_ble_eq_true rfl)) dX1_weak_3 ⟨by decide, by decide⟩) ?_
    refine W.eq (g2 := F0 m 6 ls [.int 1, .ref g0]) rfl ?_
    refine lv_if_eq hx hb dX1_weak_6 (tgt := 17) (by decide) (fun hc => ?_) (fun hc => ?_)
    · exact absurd hc hp_10
    · skip
      refine lv_aload_n hx hb dX1_weak_9 rfl (lv_at hl 0 rfl) ?_
      refine lv_iload_n hx hb dX1_weak_10 rfl (lv_at hl 2 rfl) ?_
      by_cases hy1 : hp_bad y 16
      · skip
        refine W.callR (W.runV (As := [.int y]) (rest := [.ref g0]) ⟨hx, hb, hml, hown, hts⟩ (c0_X1_isRegister l dC dI g0 b1 b2 b3 b4 b5 b6 b7 b8 e1 e2 e3 e4 e5 e6 e7 e8 th kd zs od lk nu rb rg td ob co tp _ hy1) (cwV 1 hts gw_X1_64 rfl rfl rfl ⟨rfl, by decide, by decide, by decide +kernel⟩ ⟨Nat.le_of_ble_eq_true rfl, Nat.le_of_ble_eq_true rfl⟩) ⟨hw_blind, va_recv (q0 := 0) (ci := 1) (q := (RX1, TX1, 12)) hK hP rfl rfl, hw_pay hP hK hD⟩ rfl rfl hl.1 rfl (lv_room (Nat.le_of_ble_eq_true rfl)) dX1_weak_11 ⟨by decide, by decide⟩) ?_
        refine W.eq (g2 := F0 m 14 ls [.int 0, .ref g0]) rfl ?_
        refine lv_if_ne hx hb dX1_weak_14 (tgt := 21) (by decide) (fun hc => ?_) (fun hc => ?_)
        · exact absurd rfl hc
        · skip
          refine lv_iconst (v := 1) hx hb dX1_weak_17 (by decide) ?_
          refine lv_goto hx hb dX1_weak_18 (tgt := 35) (by decide) ?_
          refine hw_topi (y := nI k) (by rw [(hk.resolve_right (fun h9 => h9.1 (Or.inr hy1))).2]; decide) ?_
          exact tail () H locs ls (trivial) hP hD hS (lv_sub hl [0, 1, 2] rfl)
      · skip
        refine W.callR (W.runV (As := [.int y]) (rest := [.ref g0]) ⟨hx, hb, hml, hown, hts⟩ (c1_X1_isRegister l dC dI g0 b1 b2 b3 b4 b5 b6 b7 b8 e1 e2 e3 e4 e5 e6 e7 e8 th kd zs od lk nu rb rg td ob co tp _ hy1) (cwV 1 hts gw_X1_64 rfl rfl rfl ⟨rfl, by decide, by decide, by decide +kernel⟩ ⟨Nat.le_of_ble_eq_true rfl, Nat.le_of_ble_eq_true rfl⟩) ⟨hw_blind, va_recv (q0 := 0) (ci := 1) (q := (RX1, TX1, 12)) hK hP rfl rfl, hw_pay hP hK hD⟩ rfl rfl hl.1 rfl (lv_room (Nat.le_of_ble_eq_true rfl)) dX1_weak_11 ⟨by decide, by decide⟩) ?_
        refine W.eq (g2 := F0 m 14 ls [.int 1, .ref g0]) rfl ?_
        refine lv_if_ne hx hb dX1_weak_14 (tgt := 21) (by decide) (fun hc => ?_) (fun hc => ?_)
        · skip
          obtain ⟨-, hat, hk3⟩ := hk.resolve_left (fun h9 => h9.1.elim hr1 hy1)
          obtain ⟨i, hi, hyi⟩ := hp_ok' hy1
          rw [hp_atE hyi hi] at hat
          refine lv_aload_n hx hb dX1_weak_21 rfl (lv_at hl 0 rfl) ?_
          refine va_get (D := (dC, dI)) (ci := 1) (v := .ref b7) (C := RX1) (T := TX1) (N := 12) hx hb hts inX1 hown hK hP 0 rfl rfl 7 (by decide) (hts _ bw_fl_X1_30) (fun _ h9 => h9) rfl dX1_weak_22 ?_
          refine lv_iload_n hx hb dX1_weak_25 rfl (lv_at hl 2 rfl) ?_
          refine hw_iald (j := i) hx hb hK hP 7 6 rfl rfl (hyi) (hi) (by decide) dX1_weak_26 ?_
          refine hw_topi (y := nI (hp_r M i)) (hQ.2.2.1 i hi) ?_
          refine lv_if_ne hx hb dX1_weak_27 (tgt := 34) (by decide) (fun hc => ?_) (fun hc => ?_)
          · exact absurd ((hp_r0 hW hi).mpr hat) hc
          · skip
            refine lv_iconst (v := 3) hx hb dX1_weak_30 (by decide) ?_
            refine lv_goto hx hb dX1_weak_31 (tgt := 35) (by decide) ?_
            refine hw_topi (y := nI k) (by rw [hk3]; decide) ?_
            exact tail () H locs ls (trivial) hP hD hS (lv_sub hl [0, 1, 2] rfl)
        · exact absurd hc hp_10

set_option maxHeartbeats 4000000 in
set_option maxRecDepth 100000 in
theorem c2_X1_weak (l : Launch) (dC : Nat → ClassId) (dI : Nat → Nat → Nat) (g0 b1 b2 b3 b4 b5 b6 b7 b8 : Nat) (e1 e2 e3 e4 e5 e6 e7 e8 : ClassId) (th : Int32) (kd zs od lk : Nat → Int32) (nu : Nat → Int64) (rb rg td : Nat → Int32) (ob co tp : Int32) (sz : Nat) (M : hp_S) (hW : hp_W M) (hQ : hp_Q M kd zs od lk nu rg ob co) (j i : Nat) (hj : j < 16) (hi : i < 16) (h0n : hp_r M i ≠ 0) (hfull : ¬ hp_tk (hp_rm M 1) + (1 + 1) ≤ 300) : Met l yX1_weak wsX1_weak ({ frames := 3, cells := 0, slots := 0, locals := 80 }) (va_Pc [.ref g0, .int (nI j), .int (nI i)] (hw_pre (dC, dI) vwCl [(e1, .int), (e2, .int), (e3, .int), (e4, .int), (e5, .long), (e6, .boolean), (e7, .int), (e8, .int)] [(g0, .inr (1, [.int th, .ref b1, .ref b2, .ref b3, .ref b4, .ref b5, .ref b6, .ref b7, .ref b8, .int ob, .int co, .int tp])), (b1, .inl (e1, 301, .inl kd)), (b2, .inl (e2, 301, .inl zs)), (b3, .inl (e3, 301, .inl od)), (b4, .inl (e4, 12040, .inl lk)), (b5, .inl (e5, 12040, .inr (.inl nu))), (b6, .inl (e6, 301, .inl rb)), (b7, .inl (e7, 16, .inl rg)), (b8, .inl (e8, 301, .inl td))] sz)) (va_Qi (fun (_ : Int32) (u : Int32 × (Nat → Int32) × (Nat → Int32) × (Nat → Int32) × (Nat → Int32) × (Nat → Int64) × (Nat → Int32) × (Nat → Int32) × (Nat → Int32) × Int32 × Int32 × Int32) => u.1 = 2 ∧ hp_Q (hp_rm M 1) u.2.1 u.2.2.1 u.2.2.2.1 u.2.2.2.2.1 u.2.2.2.2.2.1 u.2.2.2.2.2.2.2.1 u.2.2.2.2.2.2.2.2.2.1 u.2.2.2.2.2.2.2.2.2.2.1) (fun u t => hw_B (dC, dI) vwCl [(e1, .int), (e2, .int), (e3, .int), (e4, .int), (e5, .long), (e6, .boolean), (e7, .int), (e8, .int)] (va_A [(g0, .inr (1, [.int th, .ref b1, .ref b2, .ref b3, .ref b4, .ref b5, .ref b6, .ref b7, .ref b8, .int ob, .int co, .int tp])), (b1, .inl (e1, 301, .inl kd)), (b2, .inl (e2, 301, .inl zs)), (b3, .inl (e3, 301, .inl od)), (b4, .inl (e4, 12040, .inl lk)), (b5, .inl (e5, 12040, .inr (.inl nu))), (b6, .inl (e6, 301, .inl rb)), (b7, .inl (e7, 16, .inl rg)), (b8, .inl (e8, 301, .inl td))] sz) ((fun u : Int32 × (Nat → Int32) × (Nat → Int32) × (Nat → Int32) × (Nat → Int32) × (Nat → Int64) × (Nat → Int32) × (Nat → Int32) × (Nat → Int32) × Int32 × Int32 × Int32 => [(g0, .inr (1, [.int u.1, .ref b1, .ref b2, .ref b3, .ref b4, .ref b5, .ref b6, .ref b7, .ref b8, .int u.2.2.2.2.2.2.2.2.2.1, .int u.2.2.2.2.2.2.2.2.2.2.1, .int u.2.2.2.2.2.2.2.2.2.2.2])), (b1, .inl (e1, 301, .inl u.2.1)), (b2, .inl (e2, 301, .inl u.2.2.1)), (b3, .inl (e3, 301, .inl u.2.2.2.1)), (b4, .inl (e4, 12040, .inl u.2.2.2.2.1)), (b5, .inl (e5, 12040, .inr (.inl u.2.2.2.2.2.1))), (b6, .inl (e6, 301, .inl u.2.2.2.2.2.2.1)), (b7, .inl (e7, 16, .inl u.2.2.2.2.2.2.2.1)), (b8, .inl (e8, 301, .inl u.2.2.2.2.2.2.2.2.1))]) u) t) (va_A [(g0, .inr (1, [.int th, .ref b1, .ref b2, .ref b3, .ref b4, .ref b5, .ref b6, .ref b7, .ref b8, .int ob, .int co, .int tp])), (b1, .inl (e1, 301, .inl kd)), (b2, .inl (e2, 301, .inl zs)), (b3, .inl (e3, 301, .inl od)), (b4, .inl (e4, 12040, .inl lk)), (b5, .inl (e5, 12040, .inr (.inl nu))), (b6, .inl (e6, 301, .inl rb)), (b7, .inl (e7, 16, .inl rg)), (b8, .inl (e8, 301, .inl td))] sz)) 0 0 (va_A [(g0, .inr (1, [.int th, .ref b1, .ref b2, .ref b3, .ref b4, .ref b5, .ref b6, .ref b7, .ref b8, .int ob, .int co, .int tp])), (b1, .inl (e1, 301, .inl kd)), (b2, .inl (e2, 301, .inl zs)), (b3, .inl (e3, 301, .inl od)), (b4, .inl (e4, 12040, .inl lk)), (b5, .inl (e5, 12040, .inr (.inl nu))), (b6, .inl (e6, 301, .inl rb)), (b7, .inl (e7, 16, .inl rg)), (b8, .inl (e8, 301, .inl td))] sz) := by
  refine Met.ofW (cc := cX1_weak) (maxL := 4) (ret := some .int) (by decide) rfl ?_
  intro p e s m args below meth c s₁ B hml hv
  obtain ⟨hargs, hsz, hP, hK, hD0⟩ := hv
  have hx := B.exec
  have hb := B.bytes
  have hr := B.returns
  have hts : ∀ w ∈ wb, w.before _ s = true := fun w h => atoms_spec (ws := wsX1_weak) B.pre w (List.mem_cons_of_mem _ h)
  have hown : s.vm.findClass RX1 = some m.cls := findClass_of_methodNamed B.named
  have hlocks := B.notSynchronized
  subst hsz
  have hD := hD0.self (sz := s.heap.size)
  generalize hAe : va_A [(g0, .inr (1, [.int th, .ref b1, .ref b2, .ref b3, .ref b4, .ref b5, .ref b6, .ref b7, .ref b8, .int ob, .int co, .int tp])), (b1, .inl (e1, 301, .inl kd)), (b2, .inl (e2, 301, .inl zs)), (b3, .inl (e3, 301, .inl od)), (b4, .inl (e4, 12040, .inl lk)), (b5, .inl (e5, 12040, .inr (.inl nu))), (b6, .inl (e6, 301, .inl rb)), (b7, .inl (e7, 16, .inl rg)), (b8, .inl (e8, 301, .inl td))] s.heap.size = A at hD ⊢
  have hA : ∀ q : Nat, s.heap.size ≤ q → A q := fun q h => by rw [← hAe]; exact Or.inr h
  have hS : va_S A s.heap s.heap [] := va_S.rf
  generalize hQ9 : MQ below (va_Qi (fun (_ : Int32) (u : Int32 × (Nat → Int32) × (Nat → Int32) × (Nat → Int32) × (Nat → Int32) × (Nat → Int64) × (Nat → Int32) × (Nat → Int32) × (Nat → Int32) × Int32 × Int32 × Int32) => u.1 = 2 ∧ hp_Q (hp_rm M 1) u.2.1 u.2.2.1 u.2.2.2.1 u.2.2.2.2.1 u.2.2.2.2.2.1 u.2.2.2.2.2.2.2.1 u.2.2.2.2.2.2.2.2.2.1 u.2.2.2.2.2.2.2.2.2.2.1) (fun u t => hw_B (dC, dI) vwCl [(e1, .int), (e2, .int), (e3, .int), (e4, .int), (e5, .long), (e6, .boolean), (e7, .int), (e8, .int)] A ((fun u : Int32 × (Nat → Int32) × (Nat → Int32) × (Nat → Int32) × (Nat → Int32) × (Nat → Int64) × (Nat → Int32) × (Nat → Int32) × (Nat → Int32) × Int32 × Int32 × Int32 => [(g0, .inr (1, [.int u.1, .ref b1, .ref b2, .ref b3, .ref b4, .ref b5, .ref b6, .ref b7, .ref b8, .int u.2.2.2.2.2.2.2.2.2.1, .int u.2.2.2.2.2.2.2.2.2.2.1, .int u.2.2.2.2.2.2.2.2.2.2.2])), (b1, .inl (e1, 301, .inl u.2.1)), (b2, .inl (e2, 301, .inl u.2.2.1)), (b3, .inl (e3, 301, .inl u.2.2.2.1)), (b4, .inl (e4, 12040, .inl u.2.2.2.2.1)), (b5, .inl (e5, 12040, .inr (.inl u.2.2.2.2.2.1))), (b6, .inl (e6, 301, .inl u.2.2.2.2.2.2.1)), (b7, .inl (e7, 16, .inl u.2.2.2.2.2.2.2.1)), (b8, .inl (e8, 301, .inl u.2.2.2.2.2.2.2.2.1))]) u) t) A) args s 0 0 A = Q9
  have hl := lv_entry ([.ref g0, .int (nI j), .int (nI i)]) (n := 4) (Nat.le_of_ble_eq_true rfl)
  rw [show entryFrame m args 4 = _ from (congrArg (fun z => entryFrame m z 4) hargs).trans (lg_entry_eq m [.ref g0, .int (nI j), .int (nI i)] 4)]
  generalize (lg_sl ([.ref g0, .int (nI j), .int (nI i)]) ++ List.replicate (4 - (lg_sl ([.ref g0, .int (nI j), .int (nI i)])).length) Slot.unset).toArray = ls at hl ⊢
  have hl : lv_has ls 4 [(0, .ref g0), (1, .int (nI j)), (2, .int (nI i))] := hl
  obtain ⟨H, hH⟩ : ∃ H, H = s.heap := ⟨_, rfl⟩
  rw [← hH] at hP
  have hS : va_S A s.heap H [] := by rw [hH]; exact hS
  rw [← hH]
  generalize ([] : List Loc) = locs at hS ⊢
  have hW1 := hp_rm_W hW 1
  refine lv_aload_n hx hb dX1_weak_0 rfl (lv_at hl 0 rfl) ?_
  refine lv_aload_n hx hb dX1_weak_1 rfl (lv_at hl 0 rfl) ?_
  refine lv_iload_n hx hb dX1_weak_2 rfl (lv_at hl 1 rfl) ?_
  refine W.callR (W.runV (As := [.int (nI j)]) (rest := [.ref g0]) ⟨hx, hb, hml, hown, hts⟩ (c1_X1_isRegister l dC dI g0 b1 b2 b3 b4 b5 b6 b7 b8 e1 e2 e3 e4 e5 e6 e7 e8 th kd zs od lk nu rb rg td ob co tp _ (hp_ok2 hj (by decide))) (cwV 1 hts gw_X1_64 rfl rfl rfl ⟨rfl, by decide, by decide, by decide +kernel⟩ ⟨Nat.le_of_ble_eq_true rfl, Nat.le_of_ble_eq_true rfl⟩) ⟨hw_blind, va_recv (q0 := 0) (ci := 1) (q := (RX1, TX1, 12)) hK hP rfl rfl, hw_pay hP hK hD⟩ rfl rfl hl.1 rfl (lv_room (Nat.le_of_ble_eq_true rfl)) dX1_weak_3 ⟨by decide, by decide⟩) ?_
  refine W.eq (g2 := F0 m 6 ls [.int 1, .ref g0]) rfl ?_
  refine lv_if_eq hx hb dX1_weak_6 (tgt := 17) (by decide) (fun hc => ?_) (fun hc => ?_)
  · exact absurd hc hp_10
  · skip
    refine lv_aload_n hx hb dX1_weak_9 rfl (lv_at hl 0 rfl) ?_
    refine lv_iload_n hx hb dX1_weak_10 rfl (lv_at hl 2 rfl) ?_
    refine W.callR (W.runV (As := [.int (nI i)]) (rest := [.ref g0]) ⟨hx, hb, hml, hown, hts⟩ (c1_X1_isRegister l dC dI g0 b1 b2 b3 b4 b5 b6 b7 b8 e1 e2 e3 e4 e5 e6 e7 e8 th kd zs od lk nu rb rg td ob co tp _ (hp_ok2 hi (by decide))) (cwV 1 hts gw_X1_64 rfl rfl rfl ⟨rfl, by decide, by decide, by decide +kernel⟩ ⟨Nat.le_of_ble_eq_true rfl, Nat.le_of_ble_eq_true rfl⟩) ⟨hw_blind, va_recv (q0 := 0) (ci := 1) (q := (RX1, TX1, 12)) hK hP rfl rfl, hw_pay hP hK hD⟩ rfl rfl hl.1 rfl (lv_room (Nat.le_of_ble_eq_true rfl)) dX1_weak_11 ⟨by decide, by decide⟩) ?_
    refine W.eq (g2 := F0 m 14 ls [.int 1, .ref g0]) rfl ?_
    refine lv_if_ne hx hb dX1_weak_14 (tgt := 21) (by decide) (fun hc => ?_) (fun hc => ?_)
    · skip
      refine lv_aload_n hx hb dX1_weak_21 rfl (lv_at hl 0 rfl) ?_
      refine va_get (D := (dC, dI)) (ci := 1) (v := .ref b7) (C := RX1) (T := TX1) (N := 12) hx hb hts inX1 hown hK hP 0 rfl rfl 7 (by decide) (hts _ bw_fl_X1_30) (fun _ h9 => h9) rfl dX1_weak_22 ?_
      refine lv_iload_n hx hb dX1_weak_25 rfl (lv_at hl 2 rfl) ?_
      refine hw_iald (j := i) hx hb hK hP 7 6 rfl rfl (rfl) (hi) (by decide) dX1_weak_26 ?_
      refine hw_topi (y := nI (hp_r M i)) (hQ.2.2.1 i hi) ?_
      refine lv_if_ne hx hb dX1_weak_27 (tgt := 34) (by decide) (fun hc => ?_) (fun hc => ?_)
      · skip
        refine lv_iconst (v := 0) hx hb dX1_weak_34 (by decide) ?_
        refine va_put (D := (dC, dI)) (ci := 1) (v := .int 0) (ty := .int) (C := RX1) (T := TX1) (N := 12) hx hb hts inX1 tyX1 tyX1_ok nmX1 hown hK hP hD hS 0 rfl rfl 0 (by decide) (hts _ bw_fl_X1_36) (fun _ h9 => h9) rfl (by decide +kernel) rfl rfl (Nat.le_of_ble_eq_true rfl) dX1_weak_35 (fun H locs hP hD hS => ?_)
        have hP : va_P (dC, dI) vwCl [(g0, .inr (1, [.int 0, .ref b1, .ref b2, .ref b3, .ref b4, .ref b5, .ref b6, .ref b7, .ref b8, .int ob, .int co, .int tp])), (b1, .inl (e1, 301, .inl kd)), (b2, .inl (e2, 301, .inl zs)), (b3, .inl (e3, 301, .inl od)), (b4, .inl (e4, 12040, .inl lk)), (b5, .inl (e5, 12040, .inr (.inl nu))), (b6, .inl (e6, 301, .inl rb)), (b7, .inl (e7, 16, .inl rg)), (b8, .inl (e8, 301, .inl td))] H := hP
        have hD : va_D A [(g0, .inr (1, [.int 0, .ref b1, .ref b2, .ref b3, .ref b4, .ref b5, .ref b6, .ref b7, .ref b8, .int ob, .int co, .int tp])), (b1, .inl (e1, 301, .inl kd)), (b2, .inl (e2, 301, .inl zs)), (b3, .inl (e3, 301, .inl od)), (b4, .inl (e4, 12040, .inl lk)), (b5, .inl (e5, 12040, .inr (.inl nu))), (b6, .inl (e6, 301, .inl rb)), (b7, .inl (e7, 16, .inl rg)), (b8, .inl (e8, 301, .inl td))] := hD
        refine lv_aload_n hx hb dX1_weak_38 rfl (lv_at hl 0 rfl) ?_
        refine va_get (D := (dC, dI)) (ci := 1) (v := .int 0) (C := RX1) (T := TX1) (N := 12) hx hb hts inX1 hown hK hP 0 rfl rfl 0 (by decide) (hts _ bw_fl_X1_36) (fun _ h9 => h9) rfl dX1_weak_39 ?_
        refine lv_if_eq hx hb dX1_weak_42 (tgt := 47) (by decide) (fun hc => ?_) (fun hc => ?_)
        · skip
          refine lv_aload_n hx hb dX1_weak_47 rfl (lv_at hl 0 rfl) ?_
          refine lv_iconst (v := 3) hx hb dX1_weak_48 (by decide) ?_
          refine lv_iconst (v := 1) hx hb dX1_weak_49 (by decide) ?_
          refine W.eq (g2 := F0 m 50 ls [.int (nI 1), .int (nI 3), .ref g0]) rfl ?_
          refine hw_calli (va_runV (As := [.int (nI 3), .int (nI 1)]) (rest := []) ⟨hx, hb, hml, hown, hts⟩ (c0_X1_made l dC dI g0 b1 b2 b3 b4 b5 b6 b7 b8 e1 e2 e3 e4 e5 e6 e7 e8 0 kd zs od lk nu rb rg td ob co tp _ M hW hQ 3 1 (by decide) (by decide) (by decide) (fun _ => rfl) hfull) (cwV 2 hts gw_X1_68 rfl rfl rfl ⟨rfl, by decide, by decide, by decide +kernel⟩ ⟨Nat.le_of_ble_eq_true rfl, Nat.le_of_ble_eq_true rfl⟩) ⟨hw_blind, va_recv (q0 := 0) (ci := 1) (q := (RX1, TX1, 12)) hK hP rfl rfl, hw_pay hP hK hD⟩ rfl rfl hl.1 rfl (lv_room (Nat.le_of_ble_eq_true rfl)) dX1_weak_50 ⟨by decide, by decide⟩) hD hS hA (fun r9 u9 H locs hw hP hD hS => ?_)
          obtain ⟨th, kd, zs, od, lk, nu, rb, rg, td, ob, co, tp⟩ := u9
          have hP : va_P (dC, dI) vwCl [(g0, .inr (1, [.int th, .ref b1, .ref b2, .ref b3, .ref b4, .ref b5, .ref b6, .ref b7, .ref b8, .int ob, .int co, .int tp])), (b1, .inl (e1, 301, .inl kd)), (b2, .inl (e2, 301, .inl zs)), (b3, .inl (e3, 301, .inl od)), (b4, .inl (e4, 12040, .inl lk)), (b5, .inl (e5, 12040, .inr (.inl nu))), (b6, .inl (e6, 301, .inl rb)), (b7, .inl (e7, 16, .inl rg)), (b8, .inl (e8, 301, .inl td))] H := hP
          have hD : va_D A [(g0, .inr (1, [.int th, .ref b1, .ref b2, .ref b3, .ref b4, .ref b5, .ref b6, .ref b7, .ref b8, .int ob, .int co, .int tp])), (b1, .inl (e1, 301, .inl kd)), (b2, .inl (e2, 301, .inl zs)), (b3, .inl (e3, 301, .inl od)), (b4, .inl (e4, 12040, .inl lk)), (b5, .inl (e5, 12040, .inr (.inl nu))), (b6, .inl (e6, 301, .inl rb)), (b7, .inl (e7, 16, .inl rg)), (b8, .inl (e8, 301, .inl td))] := hD
          obtain ⟨hr9, hQ1⟩ := hw
          refine hw_topi (y := 0) (hr9) ?_
          refine lv_istore_n hx hb dX1_weak_53 rfl hl (by decide) rfl (fun ls hl => ?_)
          have hl : lv_has ls 4 [(3, .int 0), (0, .ref g0), (1, .int (nI j)), (2, .int (nI i))] := hl
          refine lv_aload_n hx hb dX1_weak_54 rfl (lv_at hl 1 rfl) ?_
          refine lv_iload_n hx hb dX1_weak_55 rfl (lv_at hl 0 rfl) ?_
          refine lv_if_ne hx hb dX1_weak_56 (tgt := 63) (by decide) (fun hc => ?_) (fun hc => ?_)
          · exact absurd rfl hc
          · skip
            refine lv_iconst (v := 2) hx hb dX1_weak_59 (by decide) ?_
            refine lv_goto hx hb dX1_weak_60 (tgt := 64) (by decide) ?_
            refine va_put (D := (dC, dI)) (ci := 1) (v := .int 2) (ty := .int) (C := RX1) (T := TX1) (N := 12) hx hb hts inX1 tyX1 tyX1_ok nmX1 hown hK hP hD hS 0 rfl rfl 0 (by decide) (hts _ bw_fl_X1_36) (fun _ h9 => h9) rfl (by decide +kernel) rfl rfl (Nat.le_of_ble_eq_true rfl) dX1_weak_64 (fun H locs hP hD hS => ?_)
            have hP : va_P (dC, dI) vwCl [(g0, .inr (1, [.int 2, .ref b1, .ref b2, .ref b3, .ref b4, .ref b5, .ref b6, .ref b7, .ref b8, .int ob, .int co, .int tp])), (b1, .inl (e1, 301, .inl kd)), (b2, .inl (e2, 301, .inl zs)), (b3, .inl (e3, 301, .inl od)), (b4, .inl (e4, 12040, .inl lk)), (b5, .inl (e5, 12040, .inr (.inl nu))), (b6, .inl (e6, 301, .inl rb)), (b7, .inl (e7, 16, .inl rg)), (b8, .inl (e8, 301, .inl td))] H := hP
            have hD : va_D A [(g0, .inr (1, [.int 2, .ref b1, .ref b2, .ref b3, .ref b4, .ref b5, .ref b6, .ref b7, .ref b8, .int ob, .int co, .int tp])), (b1, .inl (e1, 301, .inl kd)), (b2, .inl (e2, 301, .inl zs)), (b3, .inl (e3, 301, .inl od)), (b4, .inl (e4, 12040, .inl lk)), (b5, .inl (e5, 12040, .inr (.inl nu))), (b6, .inl (e6, 301, .inl rb)), (b7, .inl (e7, 16, .inl rg)), (b8, .inl (e8, 301, .inl td))] := hD
            refine lv_iload_n hx hb dX1_weak_67 rfl (lv_at hl 0 rfl) ?_
            refine lv_if_ne hx hb dX1_weak_68 (tgt := 73) (by decide) (fun hc => ?_) (fun hc => ?_)
            · exact absurd rfl hc
            · skip
              refine lv_iconst (v := 0) hx hb dX1_weak_71 (by decide) ?_
              subst hQ9
              exact W.iret (v := 0) hx hb hr (fun t ht hWm => ⟨⟨0, (2, kd, zs, od, lk, nu, rb, rg, td, ob, co, tp), rfl, ⟨rfl, hQ1⟩, by rw [ht]; exact hP, va_K.moved hWm.alike hK, hD⟩, hS.F ht⟩) hS.2.2 dX1_weak_72
        · exact absurd rfl hc
      · exact absurd ((hp_r0 hW hi).mp hc) h0n
    · exact absurd hc hp_10

set_option maxHeartbeats 4000000 in
set_option maxRecDepth 100000 in
theorem c1_X1_weak (l : Launch) (dC : Nat → ClassId) (dI : Nat → Nat → Nat) (g0 b1 b2 b3 b4 b5 b6 b7 b8 : Nat) (e1 e2 e3 e4 e5 e6 e7 e8 : ClassId) (th : Int32) (kd zs od lk : Nat → Int32) (nu : Nat → Int64) (rb rg td : Nat → Int32) (ob co tp : Int32) (sz : Nat) (M : hp_S) (hW : hp_W M) (hQ : hp_Q M kd zs od lk nu rg ob co) (j i : Nat) (hj : j < 16) (hi : i < 16) (h0n : hp_r M i ≠ 0) (hfit : hp_tk (hp_rm M 1) + (1 + 1) ≤ 300) : Met l yX1_weak wsX1_weak ({ frames := 3, cells := 0, slots := 0, locals := 80 }) (va_Pc [.ref g0, .int (nI j), .int (nI i)] (hw_pre (dC, dI) vwCl [(e1, .int), (e2, .int), (e3, .int), (e4, .int), (e5, .long), (e6, .boolean), (e7, .int), (e8, .int)] [(g0, .inr (1, [.int th, .ref b1, .ref b2, .ref b3, .ref b4, .ref b5, .ref b6, .ref b7, .ref b8, .int ob, .int co, .int tp])), (b1, .inl (e1, 301, .inl kd)), (b2, .inl (e2, 301, .inl zs)), (b3, .inl (e3, 301, .inl od)), (b4, .inl (e4, 12040, .inl lk)), (b5, .inl (e5, 12040, .inr (.inl nu))), (b6, .inl (e6, 301, .inl rb)), (b7, .inl (e7, 16, .inl rg)), (b8, .inl (e8, 301, .inl td))] sz)) (va_Qi (fun (r : Int32) (u : Int32 × (Nat → Int32) × (Nat → Int32) × (Nat → Int32) × (Nat → Int32) × (Nat → Int64) × (Nat → Int32) × (Nat → Int32) × (Nat → Int32) × Int32 × Int32 × Int32) => ∃ o, 1 ≤ o ∧ o ≤ 300 ∧ o ∉ hp_L (hp_rm M 1) ∧ r = nI (hp_tk (hp_rm M 1)) ∧ u.1 = 0 ∧ hp_Q (hp_sr (hp_sl (hp_mk (hp_rm M 1) o 3 1) o 0 (hp_r M i)) j o) u.2.1 u.2.2.1 u.2.2.2.1 u.2.2.2.2.1 u.2.2.2.2.2.1 u.2.2.2.2.2.2.2.1 u.2.2.2.2.2.2.2.2.2.1 u.2.2.2.2.2.2.2.2.2.2.1) (fun u t => hw_B (dC, dI) vwCl [(e1, .int), (e2, .int), (e3, .int), (e4, .int), (e5, .long), (e6, .boolean), (e7, .int), (e8, .int)] (va_A [(g0, .inr (1, [.int th, .ref b1, .ref b2, .ref b3, .ref b4, .ref b5, .ref b6, .ref b7, .ref b8, .int ob, .int co, .int tp])), (b1, .inl (e1, 301, .inl kd)), (b2, .inl (e2, 301, .inl zs)), (b3, .inl (e3, 301, .inl od)), (b4, .inl (e4, 12040, .inl lk)), (b5, .inl (e5, 12040, .inr (.inl nu))), (b6, .inl (e6, 301, .inl rb)), (b7, .inl (e7, 16, .inl rg)), (b8, .inl (e8, 301, .inl td))] sz) ((fun u : Int32 × (Nat → Int32) × (Nat → Int32) × (Nat → Int32) × (Nat → Int32) × (Nat → Int64) × (Nat → Int32) × (Nat → Int32) × (Nat → Int32) × Int32 × Int32 × Int32 => [(g0, .inr (1, [.int u.1, .ref b1, .ref b2, .ref b3, .ref b4, .ref b5, .ref b6, .ref b7, .ref b8, .int u.2.2.2.2.2.2.2.2.2.1, .int u.2.2.2.2.2.2.2.2.2.2.1, .int u.2.2.2.2.2.2.2.2.2.2.2])), (b1, .inl (e1, 301, .inl u.2.1)), (b2, .inl (e2, 301, .inl u.2.2.1)), (b3, .inl (e3, 301, .inl u.2.2.2.1)), (b4, .inl (e4, 12040, .inl u.2.2.2.2.1)), (b5, .inl (e5, 12040, .inr (.inl u.2.2.2.2.2.1))), (b6, .inl (e6, 301, .inl u.2.2.2.2.2.2.1)), (b7, .inl (e7, 16, .inl u.2.2.2.2.2.2.2.1)), (b8, .inl (e8, 301, .inl u.2.2.2.2.2.2.2.2.1))]) u) t) (va_A [(g0, .inr (1, [.int th, .ref b1, .ref b2, .ref b3, .ref b4, .ref b5, .ref b6, .ref b7, .ref b8, .int ob, .int co, .int tp])), (b1, .inl (e1, 301, .inl kd)), (b2, .inl (e2, 301, .inl zs)), (b3, .inl (e3, 301, .inl od)), (b4, .inl (e4, 12040, .inl lk)), (b5, .inl (e5, 12040, .inr (.inl nu))), (b6, .inl (e6, 301, .inl rb)), (b7, .inl (e7, 16, .inl rg)), (b8, .inl (e8, 301, .inl td))] sz)) 0 0 (va_A [(g0, .inr (1, [.int th, .ref b1, .ref b2, .ref b3, .ref b4, .ref b5, .ref b6, .ref b7, .ref b8, .int ob, .int co, .int tp])), (b1, .inl (e1, 301, .inl kd)), (b2, .inl (e2, 301, .inl zs)), (b3, .inl (e3, 301, .inl od)), (b4, .inl (e4, 12040, .inl lk)), (b5, .inl (e5, 12040, .inr (.inl nu))), (b6, .inl (e6, 301, .inl rb)), (b7, .inl (e7, 16, .inl rg)), (b8, .inl (e8, 301, .inl td))] sz) := by
  refine Met.ofW (cc := cX1_weak) (maxL := 4) (ret := some .int) (by decide) rfl ?_
  intro p e s m args below meth c s₁ B hml hv
  obtain ⟨hargs, hsz, hP, hK, hD0⟩ := hv
  have hx := B.exec
  have hb := B.bytes
  have hr := B.returns
  have hts : ∀ w ∈ wb, w.before _ s = true := fun w h => atoms_spec (ws := wsX1_weak) B.pre w (List.mem_cons_of_mem _ h)
  have hown : s.vm.findClass RX1 = some m.cls := findClass_of_methodNamed B.named
  have hlocks := B.notSynchronized
  subst hsz
  have hD := hD0.self (sz := s.heap.size)
  generalize hAe : va_A [(g0, .inr (1, [.int th, .ref b1, .ref b2, .ref b3, .ref b4, .ref b5, .ref b6, .ref b7, .ref b8, .int ob, .int co, .int tp])), (b1, .inl (e1, 301, .inl kd)), (b2, .inl (e2, 301, .inl zs)), (b3, .inl (e3, 301, .inl od)), (b4, .inl (e4, 12040, .inl lk)), (b5, .inl (e5, 12040, .inr (.inl nu))), (b6, .inl (e6, 301, .inl rb)), (b7, .inl (e7, 16, .inl rg)), (b8, .inl (e8, 301, .inl td))] s.heap.size = A at hD ⊢
  have hA : ∀ q : Nat, s.heap.size ≤ q → A q := fun q h => by rw [← hAe]; exact Or.inr h
  have hS : va_S A s.heap s.heap [] := va_S.rf
  generalize hQ9 : MQ below (va_Qi (fun (r : Int32) (u : Int32 × (Nat → Int32) × (Nat → Int32) × (Nat → Int32) × (Nat → Int32) × (Nat → Int64) × (Nat → Int32) × (Nat → Int32) × (Nat → Int32) × Int32 × Int32 × Int32) => ∃ o, 1 ≤ o ∧ o ≤ 300 ∧ o ∉ hp_L (hp_rm M 1) ∧ r = nI (hp_tk (hp_rm M 1)) ∧ u.1 = 0 ∧ hp_Q (hp_sr (hp_sl (hp_mk (hp_rm M 1) o 3 1) o 0 (hp_r M i)) j o) u.2.1 u.2.2.1 u.2.2.2.1 u.2.2.2.2.1 u.2.2.2.2.2.1 u.2.2.2.2.2.2.2.1 u.2.2.2.2.2.2.2.2.2.1 u.2.2.2.2.2.2.2.2.2.2.1) (fun u t => hw_B (dC, dI) vwCl [(e1, .int), (e2, .int), (e3, .int), (e4, .int), (e5, .long), (e6, .boolean), (e7, .int), (e8, .int)] A ((fun u : Int32 × (Nat → Int32) × (Nat → Int32) × (Nat → Int32) × (Nat → Int32) × (Nat → Int64) × (Nat → Int32) × (Nat → Int32) × (Nat → Int32) × Int32 × Int32 × Int32 => [(g0, .inr (1, [.int u.1, .ref b1, .ref b2, .ref b3, .ref b4, .ref b5, .ref b6, .ref b7, .ref b8, .int u.2.2.2.2.2.2.2.2.2.1, .int u.2.2.2.2.2.2.2.2.2.2.1, .int u.2.2.2.2.2.2.2.2.2.2.2])), (b1, .inl (e1, 301, .inl u.2.1)), (b2, .inl (e2, 301, .inl u.2.2.1)), (b3, .inl (e3, 301, .inl u.2.2.2.1)), (b4, .inl (e4, 12040, .inl u.2.2.2.2.1)), (b5, .inl (e5, 12040, .inr (.inl u.2.2.2.2.2.1))), (b6, .inl (e6, 301, .inl u.2.2.2.2.2.2.1)), (b7, .inl (e7, 16, .inl u.2.2.2.2.2.2.2.1)), (b8, .inl (e8, 301, .inl u.2.2.2.2.2.2.2.2.1))]) u) t) A) args s 0 0 A = Q9
  have hl := lv_entry ([.ref g0, .int (nI j), .int (nI i)]) (n := 4) (Nat.le_of_ble_eq_true rfl)
  rw [show entryFrame m args 4 = _ from (congrArg (fun z => entryFrame m z 4) hargs).trans (lg_entry_eq m [.ref g0, .int (nI j), .int (nI i)] 4)]
  generalize (lg_sl ([.ref g0, .int (nI j), .int (nI i)]) ++ List.replicate (4 - (lg_sl ([.ref g0, .int (nI j), .int (nI i)])).length) Slot.unset).toArray = ls at hl ⊢
  have hl : lv_has ls 4 [(0, .ref g0), (1, .int (nI j)), (2, .int (nI i))] := hl
  obtain ⟨H, hH⟩ : ∃ H, H = s.heap := ⟨_, rfl⟩
  rw [← hH] at hP
  have hS : va_S A s.heap H [] := by rw [hH]; exact hS
  rw [← hH]
  generalize ([] : List Loc) = locs at hS ⊢
  have hW1 := hp_rm_W hW 1
  refine lv_aload_n hx hb dX1_weak_0 rfl (lv_at hl 0 rfl) ?_
  refine lv_aload_n hx hb dX1_weak_1 rfl (lv_at hl 0 rfl) ?_
  refine lv_iload_n hx hb dX1_weak_2 rfl (lv_at hl 1 rfl) ?_
  refine W.callR (W.runV (As := [.int (nI j)]) (rest := [.ref g0]) ⟨hx, hb, hml, hown, hts⟩ (c1_X1_isRegister l dC dI g0 b1 b2 b3 b4 b5 b6 b7 b8 e1 e2 e3 e4 e5 e6 e7 e8 th kd zs od lk nu rb rg td ob co tp _ (hp_ok2 hj (by decide))) (cwV 1 hts gw_X1_64 rfl rfl rfl ⟨rfl, by decide, by decide, by decide +kernel⟩ ⟨Nat.le_of_ble_eq_true rfl, Nat.le_of_ble_eq_true rfl⟩) ⟨hw_blind, va_recv (q0 := 0) (ci := 1) (q := (RX1, TX1, 12)) hK hP rfl rfl, hw_pay hP hK hD⟩ rfl rfl hl.1 rfl (lv_room (Nat.le_of_ble_eq_true rfl)) dX1_weak_3 ⟨by decide, by decide⟩) ?_
  refine W.eq (g2 := F0 m 6 ls [.int 1, .ref g0]) rfl ?_
  refine lv_if_eq hx hb dX1_weak_6 (tgt := 17) (by decide) (fun hc => ?_) (fun hc => ?_)
  · exact absurd hc hp_10
  · skip
    refine lv_aload_n hx hb dX1_weak_9 rfl (lv_at hl 0 rfl) ?_
    refine lv_iload_n hx hb dX1_weak_10 rfl (lv_at hl 2 rfl) ?_
    refine W.callR (W.runV (As := [.int (nI i)]) (rest := [.ref g0]) ⟨hx, hb, hml, hown, hts⟩ (c1_X1_isRegister l dC dI g0 b1 b2 b3 b4 b5 b6 b7 b8 e1 e2 e3 e4 e5 e6 e7 e8 th kd zs od lk nu rb rg td ob co tp _ (hp_ok2 hi (by decide))) (cwV 1 hts gw_X1_64 rfl rfl rfl ⟨rfl, by decide, by decide, by decide +kernel⟩ ⟨Nat.le_of_ble_eq_true rfl, Nat.le_of_ble_eq_true rfl⟩) ⟨hw_blind, va_recv (q0 := 0) (ci := 1) (q := (RX1, TX1, 12)) hK hP rfl rfl, hw_pay hP hK hD⟩ rfl rfl hl.1 rfl (lv_room (Nat.le_of_ble_eq_true rfl)) dX1_weak_11 ⟨by decide, by decide⟩) ?_
    refine W.eq (g2 := F0 m 14 ls [.int 1, .ref g0]) rfl ?_
    refine lv_if_ne hx hb dX1_weak_14 (tgt := 21) (by decide) (fun hc => ?_) (fun hc => ?_)
    · skip
      refine lv_aload_n hx hb dX1_weak_21 rfl (lv_at hl 0 rfl) ?_
      refine va_get (D := (dC, dI)) (ci := 1) (v := .ref b7) (C := RX1) (T := TX1) (N := 12) hx hb hts inX1 hown hK hP 0 rfl rfl 7 (by decide) (hts _ bw_fl_X1_30) (fun _ h9 => h9) rfl dX1_weak_22 ?_
      refine lv_iload_n hx hb dX1_weak_25 rfl (lv_at hl 2 rfl) ?_
      refine hw_iald (j := i) hx hb hK hP 7 6 rfl rfl (rfl) (hi) (by decide) dX1_weak_26 ?_
      refine hw_topi (y := nI (hp_r M i)) (hQ.2.2.1 i hi) ?_
      refine lv_if_ne hx hb dX1_weak_27 (tgt := 34) (by decide) (fun hc => ?_) (fun hc => ?_)
      · skip
        refine lv_iconst (v := 0) hx hb dX1_weak_34 (by decide) ?_
        refine va_put (D := (dC, dI)) (ci := 1) (v := .int 0) (ty := .int) (C := RX1) (T := TX1) (N := 12) hx hb hts inX1 tyX1 tyX1_ok nmX1 hown hK hP hD hS 0 rfl rfl 0 (by decide) (hts _ bw_fl_X1_36) (fun _ h9 => h9) rfl (by decide +kernel) rfl rfl (Nat.le_of_ble_eq_true rfl) dX1_weak_35 (fun H locs hP hD hS => ?_)
        have hP : va_P (dC, dI) vwCl [(g0, .inr (1, [.int 0, .ref b1, .ref b2, .ref b3, .ref b4, .ref b5, .ref b6, .ref b7, .ref b8, .int ob, .int co, .int tp])), (b1, .inl (e1, 301, .inl kd)), (b2, .inl (e2, 301, .inl zs)), (b3, .inl (e3, 301, .inl od)), (b4, .inl (e4, 12040, .inl lk)), (b5, .inl (e5, 12040, .inr (.inl nu))), (b6, .inl (e6, 301, .inl rb)), (b7, .inl (e7, 16, .inl rg)), (b8, .inl (e8, 301, .inl td))] H := hP
        have hD : va_D A [(g0, .inr (1, [.int 0, .ref b1, .ref b2, .ref b3, .ref b4, .ref b5, .ref b6, .ref b7, .ref b8, .int ob, .int co, .int tp])), (b1, .inl (e1, 301, .inl kd)), (b2, .inl (e2, 301, .inl zs)), (b3, .inl (e3, 301, .inl od)), (b4, .inl (e4, 12040, .inl lk)), (b5, .inl (e5, 12040, .inr (.inl nu))), (b6, .inl (e6, 301, .inl rb)), (b7, .inl (e7, 16, .inl rg)), (b8, .inl (e8, 301, .inl td))] := hD
        refine lv_aload_n hx hb dX1_weak_38 rfl (lv_at hl 0 rfl) ?_
        refine va_get (D := (dC, dI)) (ci := 1) (v := .int 0) (C := RX1) (T := TX1) (N := 12) hx hb hts inX1 hown hK hP 0 rfl rfl 0 (by decide) (hts _ bw_fl_X1_36) (fun _ h9 => h9) rfl dX1_weak_39 ?_
        refine lv_if_eq hx hb dX1_weak_42 (tgt := 47) (by decide) (fun hc => ?_) (fun hc => ?_)
        · skip
          refine lv_aload_n hx hb dX1_weak_47 rfl (lv_at hl 0 rfl) ?_
          refine lv_iconst (v := 3) hx hb dX1_weak_48 (by decide) ?_
          refine lv_iconst (v := 1) hx hb dX1_weak_49 (by decide) ?_
          refine W.eq (g2 := F0 m 50 ls [.int (nI 1), .int (nI 3), .ref g0]) rfl ?_
          refine hw_calli (va_runV (As := [.int (nI 3), .int (nI 1)]) (rest := []) ⟨hx, hb, hml, hown, hts⟩ (c1_X1_made l dC dI g0 b1 b2 b3 b4 b5 b6 b7 b8 e1 e2 e3 e4 e5 e6 e7 e8 0 kd zs od lk nu rb rg td ob co tp _ M hW hQ 3 1 (by decide) (by decide) (by decide) (fun _ => rfl) hfit) (cwV 2 hts gw_X1_68 rfl rfl rfl ⟨rfl, by decide, by decide, by decide +kernel⟩ ⟨Nat.le_of_ble_eq_true rfl, Nat.le_of_ble_eq_true rfl⟩) ⟨hw_blind, va_recv (q0 := 0) (ci := 1) (q := (RX1, TX1, 12)) hK hP rfl rfl, hw_pay hP hK hD⟩ rfl rfl hl.1 rfl (lv_room (Nat.le_of_ble_eq_true rfl)) dX1_weak_50 ⟨by decide, by decide⟩) hD hS hA (fun r9 u9 H locs hw hP hD hS => ?_)
          obtain ⟨th, kd, zs, od, lk, nu, rb, rg, td, ob, co, tp⟩ := u9
          have hP : va_P (dC, dI) vwCl [(g0, .inr (1, [.int th, .ref b1, .ref b2, .ref b3, .ref b4, .ref b5, .ref b6, .ref b7, .ref b8, .int ob, .int co, .int tp])), (b1, .inl (e1, 301, .inl kd)), (b2, .inl (e2, 301, .inl zs)), (b3, .inl (e3, 301, .inl od)), (b4, .inl (e4, 12040, .inl lk)), (b5, .inl (e5, 12040, .inr (.inl nu))), (b6, .inl (e6, 301, .inl rb)), (b7, .inl (e7, 16, .inl rg)), (b8, .inl (e8, 301, .inl td))] H := hP
          have hD : va_D A [(g0, .inr (1, [.int th, .ref b1, .ref b2, .ref b3, .ref b4, .ref b5, .ref b6, .ref b7, .ref b8, .int ob, .int co, .int tp])), (b1, .inl (e1, 301, .inl kd)), (b2, .inl (e2, 301, .inl zs)), (b3, .inl (e3, 301, .inl od)), (b4, .inl (e4, 12040, .inl lk)), (b5, .inl (e5, 12040, .inr (.inl nu))), (b6, .inl (e6, 301, .inl rb)), (b7, .inl (e7, 16, .inl rg)), (b8, .inl (e8, 301, .inl td))] := hD
          obtain ⟨o, ho1, ho2, ho3, hr9, hQ1⟩ := hw
          refine hw_topi (y := nI o) (hr9) ?_
          refine lv_istore_n hx hb dX1_weak_53 rfl hl (by decide) rfl (fun ls hl => ?_)
          have hl : lv_has ls 4 [(3, .int (nI o)), (0, .ref g0), (1, .int (nI j)), (2, .int (nI i))] := hl
          refine lv_aload_n hx hb dX1_weak_54 rfl (lv_at hl 1 rfl) ?_
          refine lv_iload_n hx hb dX1_weak_55 rfl (lv_at hl 0 rfl) ?_
          refine lv_if_ne hx hb dX1_weak_56 (tgt := 63) (by decide) (fun hc => ?_) (fun hc => ?_)
          · skip
            refine lv_iconst (v := 0) hx hb dX1_weak_63 (by decide) ?_
            refine va_put (D := (dC, dI)) (ci := 1) (v := .int 0) (ty := .int) (C := RX1) (T := TX1) (N := 12) hx hb hts inX1 tyX1 tyX1_ok nmX1 hown hK hP hD hS 0 rfl rfl 0 (by decide) (hts _ bw_fl_X1_36) (fun _ h9 => h9) rfl (by decide +kernel) rfl rfl (Nat.le_of_ble_eq_true rfl) dX1_weak_64 (fun H locs hP hD hS => ?_)
            have hP : va_P (dC, dI) vwCl [(g0, .inr (1, [.int 0, .ref b1, .ref b2, .ref b3, .ref b4, .ref b5, .ref b6, .ref b7, .ref b8, .int ob, .int co, .int tp])), (b1, .inl (e1, 301, .inl kd)), (b2, .inl (e2, 301, .inl zs)), (b3, .inl (e3, 301, .inl od)), (b4, .inl (e4, 12040, .inl lk)), (b5, .inl (e5, 12040, .inr (.inl nu))), (b6, .inl (e6, 301, .inl rb)), (b7, .inl (e7, 16, .inl rg)), (b8, .inl (e8, 301, .inl td))] H := hP
            have hD : va_D A [(g0, .inr (1, [.int 0, .ref b1, .ref b2, .ref b3, .ref b4, .ref b5, .ref b6, .ref b7, .ref b8, .int ob, .int co, .int tp])), (b1, .inl (e1, 301, .inl kd)), (b2, .inl (e2, 301, .inl zs)), (b3, .inl (e3, 301, .inl od)), (b4, .inl (e4, 12040, .inl lk)), (b5, .inl (e5, 12040, .inr (.inl nu))), (b6, .inl (e6, 301, .inl rb)), (b7, .inl (e7, 16, .inl rg)), (b8, .inl (e8, 301, .inl td))] := hD
            refine lv_iload_n hx hb dX1_weak_67 rfl (lv_at hl 0 rfl) ?_
            refine lv_if_ne hx hb dX1_weak_68 (tgt := 73) (by decide) (fun hc => ?_) (fun hc => ?_)
            · skip
              refine lv_aload_n hx hb dX1_weak_73 rfl (lv_at hl 1 rfl) ?_
              refine va_get (D := (dC, dI)) (ci := 1) (v := .ref b4) (C := RX1) (T := TX1) (N := 12) hx hb hts inX1 hown hK hP 0 rfl rfl 4 (by decide) (hts _ bw_fl_X1_19) (fun _ h9 => h9) rfl dX1_weak_74 ?_
              refine lv_bipush (v := 40) hx hb dX1_weak_77 (by decide) ?_
              refine lv_iload_n hx hb dX1_weak_79 rfl (lv_at hl 0 rfl) ?_
              refine lv_imul hx hb dX1_weak_80 ?_
              refine lv_aload_n hx hb dX1_weak_81 rfl (lv_at hl 1 rfl) ?_
              refine va_get (D := (dC, dI)) (ci := 1) (v := .ref b7) (C := RX1) (T := TX1) (N := 12) hx hb hts inX1 hown hK hP 0 rfl rfl 7 (by decide) (hts _ bw_fl_X1_30) (fun _ h9 => h9) rfl dX1_weak_82 ?_
              refine lv_iload_n hx hb dX1_weak_85 rfl (lv_at hl 3 rfl) ?_
              refine hw_iald (j := i) hx hb hK hP 7 6 rfl rfl (rfl) (hi) (by decide) dX1_weak_86 ?_
              refine hw_topi (y := nI (hp_r M i)) (by have h9 := hQ1.2.2.1 i hi; rw [show hp_r (hp_mk (hp_rm M 1) o 3 1) = hp_r M from hp_rm_r M 1] at h9; exact h9) ?_
              refine hw_iast (j := 40 * o + 0) hx hb hK hP hD hS 4 3 rfl rfl (hp_40o o) (by omega) (by decide) dX1_weak_87 (fun H locs hP hD hS => ?_)
              have hP : va_P (dC, dI) vwCl [(g0, .inr (1, [.int 0, .ref b1, .ref b2, .ref b3, .ref b4, .ref b5, .ref b6, .ref b7, .ref b8, .int ob, .int co, .int tp])), (b1, .inl (e1, 301, .inl kd)), (b2, .inl (e2, 301, .inl zs)), (b3, .inl (e3, 301, .inl od)), (b4, .inl (e4, 12040, .inl (upd lk (40 * o + 0) (nI (hp_r M i))))), (b5, .inl (e5, 12040, .inr (.inl nu))), (b6, .inl (e6, 301, .inl rb)), (b7, .inl (e7, 16, .inl rg)), (b8, .inl (e8, 301, .inl td))] H := hP
              have hD : va_D A [(g0, .inr (1, [.int 0, .ref b1, .ref b2, .ref b3, .ref b4, .ref b5, .ref b6, .ref b7, .ref b8, .int ob, .int co, .int tp])), (b1, .inl (e1, 301, .inl kd)), (b2, .inl (e2, 301, .inl zs)), (b3, .inl (e3, 301, .inl od)), (b4, .inl (e4, 12040, .inl (upd lk (40 * o + 0) (nI (hp_r M i))))), (b5, .inl (e5, 12040, .inr (.inl nu))), (b6, .inl (e6, 301, .inl rb)), (b7, .inl (e7, 16, .inl rg)), (b8, .inl (e8, 301, .inl td))] := hD
              refine lv_aload_n hx hb dX1_weak_88 rfl (lv_at hl 1 rfl) ?_
              refine va_get (D := (dC, dI)) (ci := 1) (v := .ref b7) (C := RX1) (T := TX1) (N := 12) hx hb hts inX1 hown hK hP 0 rfl rfl 7 (by decide) (hts _ bw_fl_X1_30) (fun _ h9 => h9) rfl dX1_weak_89 ?_
              refine lv_iload_n hx hb dX1_weak_92 rfl (lv_at hl 2 rfl) ?_
              refine lv_iload_n hx hb dX1_weak_93 rfl (lv_at hl 0 rfl) ?_
              refine hw_iast (j := j) hx hb hK hP hD hS 7 6 rfl rfl (rfl) (hj) (by decide) dX1_weak_94 (fun H locs hP hD hS => ?_)
              have hP : va_P (dC, dI) vwCl [(g0, .inr (1, [.int 0, .ref b1, .ref b2, .ref b3, .ref b4, .ref b5, .ref b6, .ref b7, .ref b8, .int ob, .int co, .int tp])), (b1, .inl (e1, 301, .inl kd)), (b2, .inl (e2, 301, .inl zs)), (b3, .inl (e3, 301, .inl od)), (b4, .inl (e4, 12040, .inl (upd lk (40 * o + 0) (nI (hp_r M i))))), (b5, .inl (e5, 12040, .inr (.inl nu))), (b6, .inl (e6, 301, .inl rb)), (b7, .inl (e7, 16, .inl (upd rg j (nI o)))), (b8, .inl (e8, 301, .inl td))] H := hP
              have hD : va_D A [(g0, .inr (1, [.int 0, .ref b1, .ref b2, .ref b3, .ref b4, .ref b5, .ref b6, .ref b7, .ref b8, .int ob, .int co, .int tp])), (b1, .inl (e1, 301, .inl kd)), (b2, .inl (e2, 301, .inl zs)), (b3, .inl (e3, 301, .inl od)), (b4, .inl (e4, 12040, .inl (upd lk (40 * o + 0) (nI (hp_r M i))))), (b5, .inl (e5, 12040, .inr (.inl nu))), (b6, .inl (e6, 301, .inl rb)), (b7, .inl (e7, 16, .inl (upd rg j (nI o)))), (b8, .inl (e8, 301, .inl td))] := hD
              refine lv_aload_n hx hb dX1_weak_95 rfl (lv_at hl 1 rfl) ?_
              refine lv_iload_n hx hb dX1_weak_96 rfl (lv_at hl 0 rfl) ?_
              refine W.callR (W.runV (As := [.int (nI o)]) (rest := []) ⟨hx, hb, hml, hown, hts⟩ (c_X1_placeOf l dC dI g0 b1 b2 b3 b4 b5 b6 b7 b8 e1 e2 e3 e4 e5 e6 e7 e8 0 kd zs od (upd lk (40 * o + 0) (nI (hp_r M i))) nu rb (upd rg j (nI o)) td ob co tp _ (hp_sr (hp_sl (hp_mk (hp_rm M 1) o 3 1) o 0 (hp_r M i)) j o) (hp_wks_W hW1 ho3 ho1 ho2 hfit (by have h9 := hW1.2.2.2.1 i hi; rw [hp_rm_r] at h9; exact h9)) (hp_sr_Q (hp_sl_Q (o := o) (i := 0) (x := hp_r M i) (hp_mk_W hW1 ho3 ho1 ho2 (by decide) (by decide) (by decide) (fun _ => rfl) hfit) hQ1 (by decide)) j o) o (hp_mkin (hp_rm M 1) o 3 1)) (cwV 1 hts gw_X1_72 rfl rfl rfl ⟨rfl, by decide, by decide, by decide +kernel⟩ ⟨Nat.le_of_ble_eq_true rfl, Nat.le_of_ble_eq_true rfl⟩) ⟨hw_blind, va_recv (q0 := 0) (ci := 1) (q := (RX1, TX1, 12)) hK hP rfl rfl, hw_pay hP hK hD⟩ rfl rfl hl.1 rfl (lv_room (Nat.le_of_ble_eq_true rfl)) dX1_weak_97 ⟨by decide, by decide⟩) ?_
              refine W.eq (g2 := F0 m 100 ls [.int (nI (hp_pl (hp_sr (hp_sl (hp_mk (hp_rm M 1) o 3 1) o 0 (hp_r M i)) j o) o))]) rfl ?_
              refine hw_topi (y := nI (hp_tk (hp_rm M 1))) (by rw [show hp_pl (hp_sr (hp_sl (hp_mk (hp_rm M 1) o 3 1) o 0 (hp_r M i)) j o) o = hp_tk (hp_rm M 1) from hp_mk_plo (k := 3) ho3]) ?_
              subst hQ9
              exact W.iret (v := nI (hp_tk (hp_rm M 1))) hx hb hr (fun t ht hWm => ⟨⟨nI (hp_tk (hp_rm M 1)), (0, kd, zs, od, (upd lk (40 * o + 0) (nI (hp_r M i))), nu, rb, (upd rg j (nI o)), td, ob, co, tp), rfl, ⟨o, ho1, ho2, ho3, rfl, rfl, hp_sr_Q (hp_sl_Q (o := o) (i := 0) (x := hp_r M i) (hp_mk_W hW1 ho3 ho1 ho2 (by decide) (by decide) (by decide) (fun _ => rfl) hfit) hQ1 (by decide)) j o⟩, by rw [ht]; exact hP, va_K.moved hWm.alike hK, hD⟩, hS.F ht⟩) hS.2.2 dX1_weak_100
            · exact absurd hc (hp_onz ho1 ho2)
          · exact absurd hc (hp_onz ho1 ho2)
        · exact absurd rfl hc
      · exact absurd ((hp_r0 hW hi).mp hc) h0n
    · exact absurd hc hp_10

set_option maxHeartbeats 4000000 in
set_option maxRecDepth 100000 in
theorem c_X1_state (l : Launch) (dC : Nat → ClassId) (dI : Nat → Nat → Nat) (g0 b1 b2 b3 b4 b5 b6 b7 b8 : Nat) (e1 e2 e3 e4 e5 e6 e7 e8 : ClassId) (th : Int32) (kd zs od lk : Nat → Int32) (nu : Nat → Int64) (rb rg td : Nat → Int32) (ob co tp : Int32) (sz : Nat) (M : hp_S) (hW : hp_W M) (hQ : hp_Q M kd zs od lk nu rg ob co) (r x : Int32) (k : Nat) (hk : hp_ck (hp_bad r 16 ∨ hp_bad x 3) k) : Met l yX1_state wsX1_state ({ frames := 2, cells := 0, slots := 0, locals := 44 }) (va_Pc [.ref g0, .int r, .int x] (hw_pre (dC, dI) vwCl [(e1, .int), (e2, .int), (e3, .int), (e4, .int), (e5, .long), (e6, .boolean), (e7, .int), (e8, .int)] [(g0, .inr (1, [.int th, .ref b1, .ref b2, .ref b3, .ref b4, .ref b5, .ref b6, .ref b7, .ref b8, .int ob, .int co, .int tp])), (b1, .inl (e1, 301, .inl kd)), (b2, .inl (e2, 301, .inl zs)), (b3, .inl (e3, 301, .inl od)), (b4, .inl (e4, 12040, .inl lk)), (b5, .inl (e5, 12040, .inr (.inl nu))), (b6, .inl (e6, 301, .inl rb)), (b7, .inl (e7, 16, .inl rg)), (b8, .inl (e8, 301, .inl td))] sz)) (va_Qi (fun (a u : Int32) => u = nI k ∧ (k = 0 → a = hp_st M (hp_at M r) x.toNatClampNeg)) (fun u t => hw_B (dC, dI) vwCl [(e1, .int), (e2, .int), (e3, .int), (e4, .int), (e5, .long), (e6, .boolean), (e7, .int), (e8, .int)] (va_A [(g0, .inr (1, [.int th, .ref b1, .ref b2, .ref b3, .ref b4, .ref b5, .ref b6, .ref b7, .ref b8, .int ob, .int co, .int tp])), (b1, .inl (e1, 301, .inl kd)), (b2, .inl (e2, 301, .inl zs)), (b3, .inl (e3, 301, .inl od)), (b4, .inl (e4, 12040, .inl lk)), (b5, .inl (e5, 12040, .inr (.inl nu))), (b6, .inl (e6, 301, .inl rb)), (b7, .inl (e7, 16, .inl rg)), (b8, .inl (e8, 301, .inl td))] sz) ((fun u : Int32 => [(g0, .inr (1, [.int u, .ref b1, .ref b2, .ref b3, .ref b4, .ref b5, .ref b6, .ref b7, .ref b8, .int ob, .int co, .int tp])), (b1, .inl (e1, 301, .inl kd)), (b2, .inl (e2, 301, .inl zs)), (b3, .inl (e3, 301, .inl od)), (b4, .inl (e4, 12040, .inl lk)), (b5, .inl (e5, 12040, .inr (.inl nu))), (b6, .inl (e6, 301, .inl rb)), (b7, .inl (e7, 16, .inl rg)), (b8, .inl (e8, 301, .inl td))]) u) t) (va_A [(g0, .inr (1, [.int th, .ref b1, .ref b2, .ref b3, .ref b4, .ref b5, .ref b6, .ref b7, .ref b8, .int ob, .int co, .int tp])), (b1, .inl (e1, 301, .inl kd)), (b2, .inl (e2, 301, .inl zs)), (b3, .inl (e3, 301, .inl od)), (b4, .inl (e4, 12040, .inl lk)), (b5, .inl (e5, 12040, .inr (.inl nu))), (b6, .inl (e6, 301, .inl rb)), (b7, .inl (e7, 16, .inl rg)), (b8, .inl (e8, 301, .inl td))] sz)) 0 0 (va_A [(g0, .inr (1, [.int th, .ref b1, .ref b2, .ref b3, .ref b4, .ref b5, .ref b6, .ref b7, .ref b8, .int ob, .int co, .int tp])), (b1, .inl (e1, 301, .inl kd)), (b2, .inl (e2, 301, .inl zs)), (b3, .inl (e3, 301, .inl od)), (b4, .inl (e4, 12040, .inl lk)), (b5, .inl (e5, 12040, .inr (.inl nu))), (b6, .inl (e6, 301, .inl rb)), (b7, .inl (e7, 16, .inl rg)), (b8, .inl (e8, 301, .inl td))] sz) := by
  refine Met.ofW (cc := cX1_state) (maxL := 4) (ret := some .int) (by decide) rfl ?_
  intro p e s m args below meth c s₁ B hml hv
  obtain ⟨hargs, hsz, hP, hK, hD0⟩ := hv
  have hx := B.exec
  have hb := B.bytes
  have hr := B.returns
  have hts : ∀ w ∈ wb, w.before _ s = true := fun w h => atoms_spec (ws := wsX1_state) B.pre w (List.mem_cons_of_mem _ h)
  have hown : s.vm.findClass RX1 = some m.cls := findClass_of_methodNamed B.named
  have hlocks := B.notSynchronized
  subst hsz
  have hD := hD0.self (sz := s.heap.size)
  generalize hAe : va_A [(g0, .inr (1, [.int th, .ref b1, .ref b2, .ref b3, .ref b4, .ref b5, .ref b6, .ref b7, .ref b8, .int ob, .int co, .int tp])), (b1, .inl (e1, 301, .inl kd)), (b2, .inl (e2, 301, .inl zs)), (b3, .inl (e3, 301, .inl od)), (b4, .inl (e4, 12040, .inl lk)), (b5, .inl (e5, 12040, .inr (.inl nu))), (b6, .inl (e6, 301, .inl rb)), (b7, .inl (e7, 16, .inl rg)), (b8, .inl (e8, 301, .inl td))] s.heap.size = A at hD ⊢
  have hA : ∀ q : Nat, s.heap.size ≤ q → A q := fun q h => by rw [← hAe]; exact Or.inr h
  have hS : va_S A s.heap s.heap [] := va_S.rf
  generalize hQ9 : MQ below (va_Qi (fun (a u : Int32) => u = nI k ∧ (k = 0 → a = hp_st M (hp_at M r) x.toNatClampNeg)) (fun u t => hw_B (dC, dI) vwCl [(e1, .int), (e2, .int), (e3, .int), (e4, .int), (e5, .long), (e6, .boolean), (e7, .int), (e8, .int)] A ((fun u : Int32 => [(g0, .inr (1, [.int u, .ref b1, .ref b2, .ref b3, .ref b4, .ref b5, .ref b6, .ref b7, .ref b8, .int ob, .int co, .int tp])), (b1, .inl (e1, 301, .inl kd)), (b2, .inl (e2, 301, .inl zs)), (b3, .inl (e3, 301, .inl od)), (b4, .inl (e4, 12040, .inl lk)), (b5, .inl (e5, 12040, .inr (.inl nu))), (b6, .inl (e6, 301, .inl rb)), (b7, .inl (e7, 16, .inl rg)), (b8, .inl (e8, 301, .inl td))]) u) t) A) args s 0 0 A = Q9
  have hl := lv_entry ([.ref g0, .int r, .int x]) (n := 4) (Nat.le_of_ble_eq_true rfl)
  rw [show entryFrame m args 4 = _ from (congrArg (fun z => entryFrame m z 4) hargs).trans (lg_entry_eq m [.ref g0, .int r, .int x] 4)]
  generalize (lg_sl ([.ref g0, .int r, .int x]) ++ List.replicate (4 - (lg_sl ([.ref g0, .int r, .int x])).length) Slot.unset).toArray = ls at hl ⊢
  have hl : lv_has ls 4 [(0, .ref g0), (1, .int r), (2, .int x)] := hl
  obtain ⟨H, hH⟩ : ∃ H, H = s.heap := ⟨_, rfl⟩
  rw [← hH] at hP
  have hS : va_S A s.heap H [] := by rw [hH]; exact hS
  rw [← hH]
  generalize ([] : List Loc) = locs at hS ⊢
  have hk4 := hp_ck_lt hk
  have tail : ∀ (z9 : Unit) (H : Heap) (locs : List Loc) (ls : Array Slot), (True) → va_P (dC, dI) vwCl [(g0, .inr (1, [.int th, .ref b1, .ref b2, .ref b3, .ref b4, .ref b5, .ref b6, .ref b7, .ref b8, .int ob, .int co, .int tp])), (b1, .inl (e1, 301, .inl kd)), (b2, .inl (e2, 301, .inl zs)), (b3, .inl (e3, 301, .inl od)), (b4, .inl (e4, 12040, .inl lk)), (b5, .inl (e5, 12040, .inr (.inl nu))), (b6, .inl (e6, 301, .inl rb)), (b7, .inl (e7, 16, .inl rg)), (b8, .inl (e8, 301, .inl td))] H → va_D A [(g0, .inr (1, [.int th, .ref b1, .ref b2, .ref b3, .ref b4, .ref b5, .ref b6, .ref b7, .ref b8, .int ob, .int co, .int tp])), (b1, .inl (e1, 301, .inl kd)), (b2, .inl (e2, 301, .inl zs)), (b3, .inl (e3, 301, .inl od)), (b4, .inl (e4, 12040, .inl lk)), (b5, .inl (e5, 12040, .inr (.inl nu))), (b6, .inl (e6, 301, .inl rb)), (b7, .inl (e7, 16, .inl rg)), (b8, .inl (e8, 301, .inl td))] → va_S A s.heap H locs → lv_has ls 4 [(0, .ref g0), (1, .int r), (2, .int x)] → W p l e (headSpec wsX1_state ({ frames := 2, cells := 0, slots := 0, locals := 44 })).room s m args below meth c H locs 0 0 Q9 (F0 m 23 ls [.int (nI k), .ref g0]) := by
    intro z9 H locs ls hI hP hD hS hl
    refine va_put (D := (dC, dI)) (ci := 1) (v := .int (nI k)) (ty := .int) (C := RX1) (T := TX1) (N := 12) hx hb hts inX1 tyX1 tyX1_ok nmX1 hown hK hP hD hS 0 rfl rfl 0 (by decide) (hts _ bw_fl_X1_36) (fun _ h9 => h9) rfl (by decide +kernel) rfl rfl (Nat.le_of_ble_eq_true rfl) dX1_state_23 (fun H locs hP hD hS => ?_)
    have hP : va_P (dC, dI) vwCl [(g0, .inr (1, [.int (nI k), .ref b1, .ref b2, .ref b3, .ref b4, .ref b5, .ref b6, .ref b7, .ref b8, .int ob, .int co, .int tp])), (b1, .inl (e1, 301, .inl kd)), (b2, .inl (e2, 301, .inl zs)), (b3, .inl (e3, 301, .inl od)), (b4, .inl (e4, 12040, .inl lk)), (b5, .inl (e5, 12040, .inr (.inl nu))), (b6, .inl (e6, 301, .inl rb)), (b7, .inl (e7, 16, .inl rg)), (b8, .inl (e8, 301, .inl td))] H := hP
    have hD : va_D A [(g0, .inr (1, [.int (nI k), .ref b1, .ref b2, .ref b3, .ref b4, .ref b5, .ref b6, .ref b7, .ref b8, .int ob, .int co, .int tp])), (b1, .inl (e1, 301, .inl kd)), (b2, .inl (e2, 301, .inl zs)), (b3, .inl (e3, 301, .inl od)), (b4, .inl (e4, 12040, .inl lk)), (b5, .inl (e5, 12040, .inr (.inl nu))), (b6, .inl (e6, 301, .inl rb)), (b7, .inl (e7, 16, .inl rg)), (b8, .inl (e8, 301, .inl td))] := hD
    refine lv_aload_n hx hb dX1_state_26 rfl (lv_at hl 0 rfl) ?_
    refine va_get (D := (dC, dI)) (ci := 1) (v := .int (nI k)) (C := RX1) (T := TX1) (N := 12) hx hb hts inX1 hown hK hP 0 rfl rfl 0 (by decide) (hts _ bw_fl_X1_36) (fun _ h9 => h9) rfl dX1_state_27 ?_
    refine lv_if_eq hx hb dX1_state_30 (tgt := 35) (by decide) (fun hc => ?_) (fun hc => ?_)
    · have hk0 : k = 0 := (hp_k0 hk4).mp hc
      have hnb := hp_ck_0 hk hk0
      obtain ⟨j, hj, hrj⟩ := hp_ok' (fun h9 => hnb (Or.inl h9))
      obtain ⟨w, hw9, hxw⟩ := hp_w3 (fun h9 => hnb (Or.inr h9))
      have ho3 := hp_in3 hW hj
      refine lv_aload_n hx hb dX1_state_35 rfl (lv_at hl 0 rfl) ?_
      refine va_get (D := (dC, dI)) (ci := 1) (v := .ref b7) (C := RX1) (T := TX1) (N := 12) hx hb hts inX1 hown hK hP 0 rfl rfl 7 (by decide) (hts _ bw_fl_X1_30) (fun _ h9 => h9) rfl dX1_state_36 ?_
      refine lv_iload_n hx hb dX1_state_39 rfl (lv_at hl 1 rfl) ?_
      refine hw_iald (j := j) hx hb hK hP 7 6 rfl rfl (hrj) (hj) (by decide) dX1_state_40 ?_
      refine hw_topi (y := nI (hp_r M j)) (hQ.2.2.1 j hj) ?_
      refine lv_istore_n hx hb dX1_state_41 rfl hl (by decide) rfl (fun ls hl => ?_)
      have hl : lv_has ls 4 [(3, .int (nI (hp_r M j))), (0, .ref g0), (1, .int r), (2, .int x)] := hl
      refine lv_iload_n hx hb dX1_state_42 rfl (lv_at hl 3 rfl) ?_
      refine lv_if_ne hx hb dX1_state_43 (tgt := 61) (by decide) (fun hc => ?_) (fun hc => ?_)
      · have hw0 : ¬ w = 0 := fun h9 => hc (by rw [hxw, h9]; exact nI_0)
        refine lv_iload_n hx hb dX1_state_61 rfl (lv_at hl 0 rfl) ?_
        refine lv_if_ne hx hb dX1_state_62 (tgt := 69) (by decide) (fun hc => ?_) (fun hc => ?_)
        · have h00 : hp_r M j ≠ 0 := fun h9 => hc ((hp_r0 hW hj).mpr h9)
          have hoL := (hW.2.2.2.1 j hj).resolve_left h00
          refine lv_iload_n hx hb dX1_state_69 rfl (lv_at hl 3 rfl) ?_
          refine lv_iconst (v := 1) hx hb dX1_state_70 (by decide) ?_
          refine lv_icmp_ne hx hb dX1_state_71 (tgt := 82) (by decide) (fun hc => ?_) (fun hc => ?_)
          · have hw1 : ¬ w = 1 := fun h9 => hc (by rw [hxw, h9]; decide)
            refine lv_aload_n hx hb dX1_state_82 rfl (lv_at hl 1 rfl) ?_
            refine va_get (D := (dC, dI)) (ci := 1) (v := .ref b2) (C := RX1) (T := TX1) (N := 12) hx hb hts inX1 hown hK hP 0 rfl rfl 2 (by decide) (hts _ bw_fl_X1_13) (fun _ h9 => h9) rfl dX1_state_83 ?_
            refine lv_iload_n hx hb dX1_state_86 rfl (lv_at hl 0 rfl) ?_
            refine hw_iald (j := hp_r M j) hx hb hK hP 2 1 rfl rfl (rfl) (by omega) (by decide) dX1_state_87 ?_
            refine hw_topi (y := hp_st M (hp_r M j) w) (by unfold hp_st; rw [if_neg hw0, if_neg h00, if_neg hw1]; exact (hQ.2.2.2.2.2 _ hoL).1) ?_
            subst hQ9
            exact W.iret (v := hp_st M (hp_r M j) w) hx hb hr (fun t ht hWm => ⟨⟨hp_st M (hp_r M j) w, (nI k), rfl, ⟨rfl, fun _ => by rw [hp_atE hrj hj, hxw, nI_clamp (by omega)]⟩, by rw [ht]; exact hP, va_K.moved hWm.alike hK, hD⟩, hS.F ht⟩) hS.2.2 dX1_state_88
          · have hw1 : w = 1 := (nI_eq (b := 1) (by omega) (by decide)).mp (hxw.symm.trans hc)
            refine lv_aload_n hx hb dX1_state_74 rfl (lv_at hl 1 rfl) ?_
            refine lv_iload_n hx hb dX1_state_75 rfl (lv_at hl 0 rfl) ?_
            refine W.callR (W.runV (As := [.int (nI (hp_r M j))]) (rest := []) ⟨hx, hb, hml, hown, hts⟩ (c_X1_placeOf l dC dI g0 b1 b2 b3 b4 b5 b6 b7 b8 e1 e2 e3 e4 e5 e6 e7 e8 (nI k) kd zs od lk nu rb rg td ob co tp _ M hW hQ (hp_r M j) hoL) (cwV 1 hts gw_X1_72 rfl rfl rfl ⟨rfl, by decide, by decide, by decide +kernel⟩ ⟨Nat.le_of_ble_eq_true rfl, Nat.le_of_ble_eq_true rfl⟩) ⟨hw_blind, va_recv (q0 := 0) (ci := 1) (q := (RX1, TX1, 12)) hK hP rfl rfl, hw_pay hP hK hD⟩ rfl rfl hl.1 rfl (lv_room (Nat.le_of_ble_eq_true rfl)) dX1_state_76 ⟨by decide, by decide⟩) ?_
            refine W.eq (g2 := F0 m 79 ls [.int (nI (hp_pl M (hp_r M j)))]) rfl ?_
            refine lv_goto hx hb dX1_state_79 (tgt := 88) (by decide) ?_
            refine hw_topi (y := hp_st M (hp_r M j) w) (by unfold hp_st; rw [if_neg hw0, if_neg h00, if_pos hw1]) ?_
            subst hQ9
            exact W.iret (v := hp_st M (hp_r M j) w) hx hb hr (fun t ht hWm => ⟨⟨hp_st M (hp_r M j) w, (nI k), rfl, ⟨rfl, fun _ => by rw [hp_atE hrj hj, hxw, nI_clamp (by omega)]⟩, by rw [ht]; exact hP, va_K.moved hWm.alike hK, hD⟩, hS.F ht⟩) hS.2.2 dX1_state_88
        · have h00 : hp_r M j = 0 := (hp_r0 hW hj).mp hc
          refine lv_iconst (v := (-1)) hx hb dX1_state_65 (by decide) ?_
          refine lv_goto hx hb dX1_state_66 (tgt := 88) (by decide) ?_
          refine hw_topi (y := hp_st M (hp_r M j) w) (by unfold hp_st; rw [if_neg hw0, if_pos h00]) ?_
          subst hQ9
          exact W.iret (v := hp_st M (hp_r M j) w) hx hb hr (fun t ht hWm => ⟨⟨hp_st M (hp_r M j) w, (nI k), rfl, ⟨rfl, fun _ => by rw [hp_atE hrj hj, hxw, nI_clamp (by omega)]⟩, by rw [ht]; exact hP, va_K.moved hWm.alike hK, hD⟩, hS.F ht⟩) hS.2.2 dX1_state_88
      · have hw0 : w = 0 := (nI_eq (b := 0) (by omega) (by decide)).mp ((hxw.symm.trans hc).trans nI_0.symm)
        refine lv_iload_n hx hb dX1_state_46 rfl (lv_at hl 0 rfl) ?_
        refine lv_if_ne hx hb dX1_state_47 (tgt := 54) (by decide) (fun hc => ?_) (fun hc => ?_)
        · have h00 : hp_r M j ≠ 0 := fun h9 => hc ((hp_r0 hW hj).mpr h9)
          refine lv_aload_n hx hb dX1_state_54 rfl (lv_at hl 1 rfl) ?_
          refine va_get (D := (dC, dI)) (ci := 1) (v := .ref b1) (C := RX1) (T := TX1) (N := 12) hx hb hts inX1 hown hK hP 0 rfl rfl 1 (by decide) (hts _ bw_fl_X1_7) (fun _ h9 => h9) rfl dX1_state_55 ?_
          refine lv_iload_n hx hb dX1_state_58 rfl (lv_at hl 0 rfl) ?_
          refine hw_iald (j := hp_r M j) hx hb hK hP 1 0 rfl rfl (rfl) (by omega) (by decide) dX1_state_59 ?_
          refine hw_topi (y := hp_st M (hp_r M j) w) (by unfold hp_st; rw [if_pos hw0, if_neg h00]; exact hQ.2.2.2.1 _ ho3) ?_
          subst hQ9
          exact W.iret (v := hp_st M (hp_r M j) w) hx hb hr (fun t ht hWm => ⟨⟨hp_st M (hp_r M j) w, (nI k), rfl, ⟨rfl, fun _ => by rw [hp_atE hrj hj, hxw, nI_clamp (by omega)]⟩, by rw [ht]; exact hP, va_K.moved hWm.alike hK, hD⟩, hS.F ht⟩) hS.2.2 dX1_state_60
        · have h00 : hp_r M j = 0 := (hp_r0 hW hj).mp hc
          refine lv_iconst (v := 0) hx hb dX1_state_50 (by decide) ?_
          refine lv_goto hx hb dX1_state_51 (tgt := 60) (by decide) ?_
          refine hw_topi (y := hp_st M (hp_r M j) w) (by unfold hp_st; rw [if_pos hw0, if_pos h00]) ?_
          subst hQ9
          exact W.iret (v := hp_st M (hp_r M j) w) hx hb hr (fun t ht hWm => ⟨⟨hp_st M (hp_r M j) w, (nI k), rfl, ⟨rfl, fun _ => by rw [hp_atE hrj hj, hxw, nI_clamp (by omega)]⟩, by rw [ht]; exact hP, va_K.moved hWm.alike hK, hD⟩, hS.F ht⟩) hS.2.2 dX1_state_60
    · have hk0 : k ≠ 0 := fun h9 => hc ((hp_k0 hk4).mpr h9)
      refine lv_iconst (v := 0) hx hb dX1_state_33 (by decide) ?_
      subst hQ9
      exact W.iret (v := 0) hx hb hr (fun t ht hWm => ⟨⟨0, (nI k), rfl, ⟨rfl, fun h9 => absurd h9 hk0⟩, by rw [ht]; exact hP, va_K.moved hWm.alike hK, hD⟩, hS.F ht⟩) hS.2.2 dX1_state_34
  refine lv_aload_n hx hb dX1_state_0 rfl (lv_at hl 0 rfl) ?_
  refine lv_aload_n hx hb dX1_state_1 rfl (lv_at hl 0 rfl) ?_
  refine lv_iload_n hx hb dX1_state_2 rfl (lv_at hl 1 rfl) ?_
  by_cases hr1 : hp_bad r 16
  · skip
    refine W.callR (W.runV (As := [.int r]) (rest := [.ref g0]) ⟨hx, hb, hml, hown, hts⟩ (c0_X1_isRegister l dC dI g0 b1 b2 b3 b4 b5 b6 b7 b8 e1 e2 e3 e4 e5 e6 e7 e8 th kd zs od lk nu rb rg td ob co tp _ hr1) (cwV 1 hts gw_X1_64 rfl rfl rfl ⟨rfl, by decide, by decide, by decide +kernel⟩ ⟨Nat.le_of_ble_eq_true rfl, Nat.le_of_ble_eq_true rfl⟩) ⟨hw_blind, va_recv (q0 := 0) (ci := 1) (q := (RX1, TX1, 12)) hK hP rfl rfl, hw_pay hP hK hD⟩ rfl rfl hl.1 rfl (lv_room (Nat.le_of_ble_eq_true rfl)) dX1_state_3 ⟨by decide, by decide⟩) ?_
    refine W.eq (g2 := F0 m 6 ls [.int 0, .ref g0]) rfl ?_
    refine lv_if_eq hx hb dX1_state_6 (tgt := 18) (by decide) (fun hc => ?_) (fun hc => ?_)
    · skip
      refine lv_iconst (v := 1) hx hb dX1_state_18 (by decide) ?_
      refine lv_goto hx hb dX1_state_19 (tgt := 23) (by decide) ?_
      refine hw_topi (y := nI k) (by rw [hp_ck_y hk (Or.inl hr1)]; decide) ?_
      exact tail () H locs ls (trivial) hP hD hS (lv_sub hl [0, 1, 2] rfl)
    · exact absurd rfl hc
  · skip
    refine W.callR (W.runV (As := [.int r]) (rest := [.ref g0]) ⟨hx, hb, hml, hown, hts⟩ (c1_X1_isRegister l dC dI g0 b1 b2 b3 b4 b5 b6 b7 b8 e1 e2 e3 e4 e5 e6 e7 e8 th kd zs od lk nu rb rg td ob co tp _ hr1) (cwV 1 hts gw_X1_64 rfl rfl rfl ⟨rfl, by decide, by decide, by decide +kernel⟩ ⟨Nat.le_of_ble_eq_true rfl, Nat.le_of_ble_eq_true rfl⟩) ⟨hw_blind, va_recv (q0 := 0) (ci := 1) (q := (RX1, TX1, 12)) hK hP rfl rfl, hw_pay hP hK hD⟩ rfl rfl hl.1 rfl (lv_room (Nat.le_of_ble_eq_true rfl)) dX1_state_3 ⟨by decide, by decide⟩) ?_
    refine W.eq (g2 := F0 m 6 ls [.int 1, .ref g0]) rfl ?_
    refine lv_if_eq hx hb dX1_state_6 (tgt := 18) (by decide) (fun hc => ?_) (fun hc => ?_)
    · exact absurd hc hp_10
    · skip
      refine lv_iload_n hx hb dX1_state_9 rfl (lv_at hl 2 rfl) ?_
      refine lv_if_lt hx hb dX1_state_10 (tgt := 18) (by decide) (fun hc => ?_) (fun hc => ?_)
      · have hx1 : hp_bad x 3 := Or.inl hc
        refine lv_iconst (v := 1) hx hb dX1_state_18 (by decide) ?_
        refine lv_goto hx hb dX1_state_19 (tgt := 23) (by decide) ?_
        refine hw_topi (y := nI k) (by rw [hp_ck_y hk (Or.inr hx1)]; decide) ?_
        exact tail () H locs ls (trivial) hP hD hS (lv_sub hl [0, 1, 2] rfl)
      · have hx0 := hc
        refine lv_iload_n hx hb dX1_state_13 rfl (lv_at hl 2 rfl) ?_
        refine lv_iconst (v := 2) hx hb dX1_state_14 (by decide) ?_
        refine lv_icmp_le hx hb dX1_state_15 (tgt := 22) (by decide) (fun hc => ?_) (fun hc => ?_)
        · have hx1 : ¬ hp_bad x 3 := fun h9 => h9.elim hx0 (fun h8 => hp_le2.mpr h8 hc)
          refine lv_iconst (v := 0) hx hb dX1_state_22 (by decide) ?_
          refine hw_topi (y := nI k) (by rw [hp_ck_n hk (fun h9 => h9.elim hr1 hx1)]; decide) ?_
          exact tail () H locs ls (trivial) hP hD hS (lv_sub hl [0, 1, 2] rfl)
        · have hx1 : hp_bad x 3 := Or.inr (hp_le2.mp hc)
          refine lv_iconst (v := 1) hx hb dX1_state_18 (by decide) ?_
          refine lv_goto hx hb dX1_state_19 (tgt := 23) (by decide) ?_
          refine hw_topi (y := nI k) (by rw [hp_ck_y hk (Or.inr hx1)]; decide) ?_
          exact tail () H locs ls (trivial) hP hD hS (lv_sub hl [0, 1, 2] rfl)

set_option maxHeartbeats 4000000 in
set_option maxRecDepth 100000 in
theorem c_X1_count (l : Launch) (dC : Nat → ClassId) (dI : Nat → Nat → Nat) (g0 b1 b2 b3 b4 b5 b6 b7 b8 : Nat) (e1 e2 e3 e4 e5 e6 e7 e8 : ClassId) (th : Int32) (kd zs od lk : Nat → Int32) (nu : Nat → Int64) (rb rg td : Nat → Int32) (ob co tp : Int32) (sz : Nat) (M : hp_S) (hW : hp_W M) (hQ : hp_Q M kd zs od lk nu rg ob co) (x : Int32) : Met l yX1_count wsX1_count ({ frames := 2, cells := 0, slots := 0, locals := 44 }) (va_Pc [.ref g0, .int x] (hw_pre (dC, dI) vwCl [(e1, .int), (e2, .int), (e3, .int), (e4, .int), (e5, .long), (e6, .boolean), (e7, .int), (e8, .int)] [(g0, .inr (1, [.int th, .ref b1, .ref b2, .ref b3, .ref b4, .ref b5, .ref b6, .ref b7, .ref b8, .int ob, .int co, .int tp])), (b1, .inl (e1, 301, .inl kd)), (b2, .inl (e2, 301, .inl zs)), (b3, .inl (e3, 301, .inl od)), (b4, .inl (e4, 12040, .inl lk)), (b5, .inl (e5, 12040, .inr (.inl nu))), (b6, .inl (e6, 301, .inl rb)), (b7, .inl (e7, 16, .inl rg)), (b8, .inl (e8, 301, .inl td))] sz)) (va_Qi (fun (a u : Int32) => a = hp_ct M x ∧ u = 0) (fun u t => hw_B (dC, dI) vwCl [(e1, .int), (e2, .int), (e3, .int), (e4, .int), (e5, .long), (e6, .boolean), (e7, .int), (e8, .int)] (va_A [(g0, .inr (1, [.int th, .ref b1, .ref b2, .ref b3, .ref b4, .ref b5, .ref b6, .ref b7, .ref b8, .int ob, .int co, .int tp])), (b1, .inl (e1, 301, .inl kd)), (b2, .inl (e2, 301, .inl zs)), (b3, .inl (e3, 301, .inl od)), (b4, .inl (e4, 12040, .inl lk)), (b5, .inl (e5, 12040, .inr (.inl nu))), (b6, .inl (e6, 301, .inl rb)), (b7, .inl (e7, 16, .inl rg)), (b8, .inl (e8, 301, .inl td))] sz) ((fun u : Int32 => [(g0, .inr (1, [.int u, .ref b1, .ref b2, .ref b3, .ref b4, .ref b5, .ref b6, .ref b7, .ref b8, .int ob, .int co, .int tp])), (b1, .inl (e1, 301, .inl kd)), (b2, .inl (e2, 301, .inl zs)), (b3, .inl (e3, 301, .inl od)), (b4, .inl (e4, 12040, .inl lk)), (b5, .inl (e5, 12040, .inr (.inl nu))), (b6, .inl (e6, 301, .inl rb)), (b7, .inl (e7, 16, .inl rg)), (b8, .inl (e8, 301, .inl td))]) u) t) (va_A [(g0, .inr (1, [.int th, .ref b1, .ref b2, .ref b3, .ref b4, .ref b5, .ref b6, .ref b7, .ref b8, .int ob, .int co, .int tp])), (b1, .inl (e1, 301, .inl kd)), (b2, .inl (e2, 301, .inl zs)), (b3, .inl (e3, 301, .inl od)), (b4, .inl (e4, 12040, .inl lk)), (b5, .inl (e5, 12040, .inr (.inl nu))), (b6, .inl (e6, 301, .inl rb)), (b7, .inl (e7, 16, .inl rg)), (b8, .inl (e8, 301, .inl td))] sz)) 0 0 (va_A [(g0, .inr (1, [.int th, .ref b1, .ref b2, .ref b3, .ref b4, .ref b5, .ref b6, .ref b7, .ref b8, .int ob, .int co, .int tp])), (b1, .inl (e1, 301, .inl kd)), (b2, .inl (e2, 301, .inl zs)), (b3, .inl (e3, 301, .inl od)), (b4, .inl (e4, 12040, .inl lk)), (b5, .inl (e5, 12040, .inr (.inl nu))), (b6, .inl (e6, 301, .inl rb)), (b7, .inl (e7, 16, .inl rg)), (b8, .inl (e8, 301, .inl td))] sz) := by
  refine Met.ofW (cc := cX1_count) (maxL := 2) (ret := some .int) (by decide) rfl ?_
  intro p e s m args below meth c s₁ B hml hv
  obtain ⟨hargs, hsz, hP, hK, hD0⟩ := hv
  have hx := B.exec
  have hb := B.bytes
  have hr := B.returns
  have hts : ∀ w ∈ wb, w.before _ s = true := fun w h => atoms_spec (ws := wsX1_count) B.pre w (List.mem_cons_of_mem _ h)
  have hown : s.vm.findClass RX1 = some m.cls := findClass_of_methodNamed B.named
  have hlocks := B.notSynchronized
  subst hsz
  have hD := hD0.self (sz := s.heap.size)
  generalize hAe : va_A [(g0, .inr (1, [.int th, .ref b1, .ref b2, .ref b3, .ref b4, .ref b5, .ref b6, .ref b7, .ref b8, .int ob, .int co, .int tp])), (b1, .inl (e1, 301, .inl kd)), (b2, .inl (e2, 301, .inl zs)), (b3, .inl (e3, 301, .inl od)), (b4, .inl (e4, 12040, .inl lk)), (b5, .inl (e5, 12040, .inr (.inl nu))), (b6, .inl (e6, 301, .inl rb)), (b7, .inl (e7, 16, .inl rg)), (b8, .inl (e8, 301, .inl td))] s.heap.size = A at hD ⊢
  have hA : ∀ q : Nat, s.heap.size ≤ q → A q := fun q h => by rw [← hAe]; exact Or.inr h
  have hS : va_S A s.heap s.heap [] := va_S.rf
  generalize hQ9 : MQ below (va_Qi (fun (a u : Int32) => a = hp_ct M x ∧ u = 0) (fun u t => hw_B (dC, dI) vwCl [(e1, .int), (e2, .int), (e3, .int), (e4, .int), (e5, .long), (e6, .boolean), (e7, .int), (e8, .int)] A ((fun u : Int32 => [(g0, .inr (1, [.int u, .ref b1, .ref b2, .ref b3, .ref b4, .ref b5, .ref b6, .ref b7, .ref b8, .int ob, .int co, .int tp])), (b1, .inl (e1, 301, .inl kd)), (b2, .inl (e2, 301, .inl zs)), (b3, .inl (e3, 301, .inl od)), (b4, .inl (e4, 12040, .inl lk)), (b5, .inl (e5, 12040, .inr (.inl nu))), (b6, .inl (e6, 301, .inl rb)), (b7, .inl (e7, 16, .inl rg)), (b8, .inl (e8, 301, .inl td))]) u) t) A) args s 0 0 A = Q9
  have hl := lv_entry ([.ref g0, .int x]) (n := 2) (Nat.le_of_ble_eq_true rfl)
  rw [show entryFrame m args 2 = _ from (congrArg (fun z => entryFrame m z 2) hargs).trans (lg_entry_eq m [.ref g0, .int x] 2)]
  generalize (lg_sl ([.ref g0, .int x]) ++ List.replicate (2 - (lg_sl ([.ref g0, .int x])).length) Slot.unset).toArray = ls at hl ⊢
  have hl : lv_has ls 2 [(0, .ref g0), (1, .int x)] := hl
  obtain ⟨H, hH⟩ : ∃ H, H = s.heap := ⟨_, rfl⟩
  rw [← hH] at hP
  have hS : va_S A s.heap H [] := by rw [hH]; exact hS
  rw [← hH]
  generalize ([] : List Loc) = locs at hS ⊢
  refine lv_aload_n hx hb dX1_count_0 rfl (lv_at hl 0 rfl) ?_
  refine lv_iconst (v := 0) hx hb dX1_count_1 (by decide) ?_
  refine va_put (D := (dC, dI)) (ci := 1) (v := .int 0) (ty := .int) (C := RX1) (T := TX1) (N := 12) hx hb hts inX1 tyX1 tyX1_ok nmX1 hown hK hP hD hS 0 rfl rfl 0 (by decide) (hts _ bw_fl_X1_36) (fun _ h9 => h9) rfl (by decide +kernel) rfl rfl (Nat.le_of_ble_eq_true rfl) dX1_count_2 (fun H locs hP hD hS => ?_)
  have hP : va_P (dC, dI) vwCl [(g0, .inr (1, [.int 0, .ref b1, .ref b2, .ref b3, .ref b4, .ref b5, .ref b6, .ref b7, .ref b8, .int ob, .int co, .int tp])), (b1, .inl (e1, 301, .inl kd)), (b2, .inl (e2, 301, .inl zs)), (b3, .inl (e3, 301, .inl od)), (b4, .inl (e4, 12040, .inl lk)), (b5, .inl (e5, 12040, .inr (.inl nu))), (b6, .inl (e6, 301, .inl rb)), (b7, .inl (e7, 16, .inl rg)), (b8, .inl (e8, 301, .inl td))] H := hP
  have hD : va_D A [(g0, .inr (1, [.int 0, .ref b1, .ref b2, .ref b3, .ref b4, .ref b5, .ref b6, .ref b7, .ref b8, .int ob, .int co, .int tp])), (b1, .inl (e1, 301, .inl kd)), (b2, .inl (e2, 301, .inl zs)), (b3, .inl (e3, 301, .inl od)), (b4, .inl (e4, 12040, .inl lk)), (b5, .inl (e5, 12040, .inr (.inl nu))), (b6, .inl (e6, 301, .inl rb)), (b7, .inl (e7, 16, .inl rg)), (b8, .inl (e8, 301, .inl td))] := hD
  refine lv_iload_n hx hb dX1_count_5 rfl (lv_at hl 1 rfl) ?_
  refine lv_if_ne hx hb dX1_count_6 (tgt := 16) (by decide) (fun hc => ?_) (fun hc => ?_)
  · have x0 := hc
    refine lv_iload_n hx hb dX1_count_16 rfl (lv_at hl 1 rfl) ?_
    refine lv_iconst (v := 1) hx hb dX1_count_17 (by decide) ?_
    refine lv_icmp_ne hx hb dX1_count_18 (tgt := 28) (by decide) (fun hc => ?_) (fun hc => ?_)
    · have x1 := hc
      refine lv_iload_n hx hb dX1_count_28 rfl (lv_at hl 1 rfl) ?_
      refine lv_iconst (v := 2) hx hb dX1_count_29 (by decide) ?_
      refine lv_icmp_ne hx hb dX1_count_30 (tgt := 40) (by decide) (fun hc => ?_) (fun hc => ?_)
      · have x2 := hc
        refine lv_iconst (v := (-1)) hx hb dX1_count_40 (by decide) ?_
        refine hw_topi (y := hp_ct M x) (by unfold hp_ct; rw [if_neg x0, if_neg x1, if_neg x2]) ?_
        subst hQ9
        exact W.iret (v := hp_ct M x) hx hb hr (fun t ht hWm => ⟨⟨hp_ct M x, 0, rfl, ⟨rfl, rfl⟩, by rw [ht]; exact hP, va_K.moved hWm.alike hK, hD⟩, hS.F ht⟩) hS.2.2 dX1_count_41
      · have x2 : x = 2 := hc
        refine lv_aload_n hx hb dX1_count_33 rfl (lv_at hl 0 rfl) ?_
        refine va_get (D := (dC, dI)) (ci := 1) (v := .int co) (C := RX1) (T := TX1) (N := 12) hx hb hts inX1 hown hK hP 0 rfl rfl 10 (by decide) (hts _ bw_fl_X1_50) (fun _ h9 => h9) rfl dX1_count_34 ?_
        refine lv_goto hx hb dX1_count_37 (tgt := 41) (by decide) ?_
        refine hw_topi (y := hp_ct M x) (by unfold hp_ct; rw [if_neg x0, if_neg x1, if_pos x2]; exact hQ.2.1) ?_
        subst hQ9
        exact W.iret (v := hp_ct M x) hx hb hr (fun t ht hWm => ⟨⟨hp_ct M x, 0, rfl, ⟨rfl, rfl⟩, by rw [ht]; exact hP, va_K.moved hWm.alike hK, hD⟩, hS.F ht⟩) hS.2.2 dX1_count_41
    · have x1 : x = 1 := hc
      refine lv_aload_n hx hb dX1_count_21 rfl (lv_at hl 0 rfl) ?_
      refine va_get (D := (dC, dI)) (ci := 1) (v := .int ob) (C := RX1) (T := TX1) (N := 12) hx hb hts inX1 hown hK hP 0 rfl rfl 9 (by decide) (hts _ bw_fl_X1_40) (fun _ h9 => h9) rfl dX1_count_22 ?_
      refine lv_goto hx hb dX1_count_25 (tgt := 41) (by decide) ?_
      refine hw_topi (y := hp_ct M x) (by unfold hp_ct; rw [if_neg x0, if_pos x1]; exact hQ.1) ?_
      subst hQ9
      exact W.iret (v := hp_ct M x) hx hb hr (fun t ht hWm => ⟨⟨hp_ct M x, 0, rfl, ⟨rfl, rfl⟩, by rw [ht]; exact hP, va_K.moved hWm.alike hK, hD⟩, hS.F ht⟩) hS.2.2 dX1_count_41
  · have x0 : x = 0 := hc
    refine lv_aload_n hx hb dX1_count_9 rfl (lv_at hl 0 rfl) ?_
    refine W.callR (W.runV (As := []) (rest := []) ⟨hx, hb, hml, hown, hts⟩ (c_X1_cells l dC dI g0 b1 b2 b3 b4 b5 b6 b7 b8 e1 e2 e3 e4 e5 e6 e7 e8 0 kd zs od lk nu rb rg td ob co tp _ M hW hQ) (cwV 0 hts gw_X1_57 rfl rfl rfl ⟨rfl, by decide, by decide, by decide +kernel⟩ ⟨Nat.le_of_ble_eq_true rfl, Nat.le_of_ble_eq_true rfl⟩) ⟨hw_blind, va_recv (q0 := 0) (ci := 1) (q := (RX1, TX1, 12)) hK hP rfl rfl, hw_pay hP hK hD⟩ rfl rfl hl.1 rfl (lv_room (Nat.le_of_ble_eq_true rfl)) dX1_count_10 ⟨by decide, by decide⟩) ?_
    refine W.eq (g2 := F0 m 13 ls [.int (nI (hp_tk M))]) rfl ?_
    refine lv_goto hx hb dX1_count_13 (tgt := 41) (by decide) ?_
    refine hw_topi (y := hp_ct M x) (by unfold hp_ct; rw [if_pos x0]) ?_
    subst hQ9
    exact W.iret (v := hp_ct M x) hx hb hr (fun t ht hWm => ⟨⟨hp_ct M x, 0, rfl, ⟨rfl, rfl⟩, by rw [ht]; exact hP, va_K.moved hWm.alike hK, hD⟩, hS.F ht⟩) hS.2.2 dX1_count_41
