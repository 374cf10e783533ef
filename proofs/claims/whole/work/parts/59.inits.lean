set_option maxHeartbeats 4000000 in
set_option maxRecDepth 100000 in
theorem c_X0_init (l : Launch) (dC : Nat → ClassId) (dI : Nat → Nat → Nat) (h0 : Nat) (sz : Nat) : Met l yX0_init wsX0_init ({ frames := 2, cells := 4, slots := 916, locals := 50 }) (va_Pc [.ref h0] (hw_pre (dC, dI) vwCl [] [(h0, .inr (0, [.null, .null, .int 0, .int 0, .int 0, .null, .int 0, .null]))] sz)) (va_Qv (fun u : Nat × Nat × Nat × Nat × ClassId × ClassId × ClassId × ClassId × (Nat → Int32) => ∀ r, r < 16 → u.2.2.2.2.2.2.2.2 r = -1) (fun u t => hw_B (dC, dI) vwCl ((fun u : Nat × Nat × Nat × Nat × ClassId × ClassId × ClassId × ClassId × (Nat → Int32) => [(u.2.2.2.2.1, .long), (u.2.2.2.2.2.1, .int), (u.2.2.2.2.2.2.1, .int), (u.2.2.2.2.2.2.2.1, .int)]) u) (va_A [(h0, .inr (0, [.null, .null, .int 0, .int 0, .int 0, .null, .int 0, .null]))] sz) ((fun u : Nat × Nat × Nat × Nat × ClassId × ClassId × ClassId × ClassId × (Nat → Int32) => [(h0, .inr (0, [.ref u.1, .ref u.2.1, .int 0, .int 0, .int 0, .ref u.2.2.1, .int 0, .ref u.2.2.2.1])), (u.1, .inl (u.2.2.2.2.1, 300, .inr (.inl (fun _ => 0)))), (u.2.1, .inl (u.2.2.2.2.2.1, 16, .inl u.2.2.2.2.2.2.2.2)), (u.2.2.1, .inl (u.2.2.2.2.2.2.1, 300, .inl (fun _ => 0))), (u.2.2.2.1, .inl (u.2.2.2.2.2.2.2.1, 300, .inl (fun _ => 0)))]) u) t) (va_A [(h0, .inr (0, [.null, .null, .int 0, .int 0, .int 0, .null, .int 0, .null]))] sz)) 4 916 (va_A [(h0, .inr (0, [.null, .null, .int 0, .int 0, .int 0, .null, .int 0, .null]))] sz) := by
  refine Met.ofW (cc := cX0_init) (maxL := 1) (ret := none) (by decide) rfl ?_
  intro p e s m args below meth c s₁ B hml hv
  obtain ⟨hargs, hsz, hP, hK, hD0⟩ := hv
  have hx := B.exec
  have hb := B.bytes
  have hr := B.returns
  have hts : ∀ w ∈ wb, w.before _ s = true := fun w h => atoms_spec (ws := wsX0_init) B.pre w (List.mem_cons_of_mem _ h)
  have hown : s.vm.findClass RX0 = some m.cls := findClass_of_methodNamed B.named
  have hlocks := B.notSynchronized
  have hin : meth.name = "<init>" := (name_of_methodNamed B.named B.method).1
  subst hsz
  have hD := hD0.self (sz := s.heap.size)
  generalize hAe : va_A [(h0, .inr (0, [.null, .null, .int 0, .int 0, .int 0, .null, .int 0, .null]))] s.heap.size = A at hD ⊢
  have hA : ∀ q : Nat, s.heap.size ≤ q → A q := fun q h => by rw [← hAe]; exact Or.inr h
  have hS : va_S A s.heap s.heap [] := va_S.rf
  generalize hQ9 : MQ below (va_Qv (fun u : Nat × Nat × Nat × Nat × ClassId × ClassId × ClassId × ClassId × (Nat → Int32) => ∀ r, r < 16 → u.2.2.2.2.2.2.2.2 r = -1) (fun u t => hw_B (dC, dI) vwCl ((fun u : Nat × Nat × Nat × Nat × ClassId × ClassId × ClassId × ClassId × (Nat → Int32) => [(u.2.2.2.2.1, .long), (u.2.2.2.2.2.1, .int), (u.2.2.2.2.2.2.1, .int), (u.2.2.2.2.2.2.2.1, .int)]) u) A ((fun u : Nat × Nat × Nat × Nat × ClassId × ClassId × ClassId × ClassId × (Nat → Int32) => [(h0, .inr (0, [.ref u.1, .ref u.2.1, .int 0, .int 0, .int 0, .ref u.2.2.1, .int 0, .ref u.2.2.2.1])), (u.1, .inl (u.2.2.2.2.1, 300, .inr (.inl (fun _ => 0)))), (u.2.1, .inl (u.2.2.2.2.2.1, 16, .inl u.2.2.2.2.2.2.2.2)), (u.2.2.1, .inl (u.2.2.2.2.2.2.1, 300, .inl (fun _ => 0))), (u.2.2.2.1, .inl (u.2.2.2.2.2.2.2.1, 300, .inl (fun _ => 0)))]) u) t) A) args s 4 916 A = Q9
  have hl := lv_entry ([.ref h0]) (n := 1) (Nat.le_of_ble_eq_true rfl)
  rw [show entryFrame m args 1 = _ from (congrArg (fun z => entryFrame m z 1) hargs).trans (lg_entry_eq m [.ref h0] 1)]
  generalize (lg_sl ([.ref h0]) ++ List.replicate (1 - (lg_sl ([.ref h0])).length) Slot.unset).toArray = ls at hl ⊢
  have hl : lv_has ls 1 [(0, .ref h0)] := hl
  obtain ⟨H, hH⟩ : ∃ H, H = s.heap := ⟨_, rfl⟩
  rw [← hH] at hP
  have hS : va_S A s.heap H [] := by rw [hH]; exact hS
  rw [← hH]
  generalize ([] : List Loc) = locs at hS ⊢
  refine lv_aload_n hx hb dX0_init_0 rfl (lv_at hl 0 rfl) ?_
  refine W.objInit hx hb hown (hts _ bw_ml_X0_1) (hts _ bw_im_objectInit) (hts _ bw_co_objectInit) rfl (by rw [hml]; exact hl.1) rfl dX0_init_1 (Nat.le_of_ble_eq_true rfl) (Nat.le_of_ble_eq_true rfl) ?_
  refine W.eq (g2 := F0 m 4 ls []) rfl ?_
  refine lv_aload_n hx hb dX0_init_4 rfl (lv_at hl 0 rfl) ?_
  refine lv_sipush (v := 300) hx hb dX0_init_5 (by decide) ?_
  refine va_newa (atype := .long) (ty := .long) (a0 := (300, .inr (.inl (fun _ => 0)))) (N' := 300) hx hb (hts _ bw_ac_long) rfl hK hP hD hS hA (fun _ => rfl) (by decide) (by decide) (by decide) (by decide) (by decide) dX0_init_8 (fun a1 c1 H hK hP hD hS => ?_)
  have hP : va_P (dC, dI) vwCl [(h0, .inr (0, [.null, .null, .int 0, .int 0, .int 0, .null, .int 0, .null])), (a1, .inl (c1, 300, .inr (.inl (fun _ => 0))))] H := hP
  have hD : va_D A [(h0, .inr (0, [.null, .null, .int 0, .int 0, .int 0, .null, .int 0, .null])), (a1, .inl (c1, 300, .inr (.inl (fun _ => 0))))] := hD
  have hK : va_K (dC, dI) vwCl [(c1, .long)] s := hK
  refine va_putF (D := (dC, dI)) (ci := 0) (v := .ref a1) (ty := .array .long) (C := RX0) (T := TX0) (N := 8) hx hb hts inX0 tyX0 tyX0_ok nmX0 hown hK hP hD hS 0 rfl rfl 0 (by decide) (hts _ bw_fl_X0_9) (fun _ h9 => h9) rfl hin rfl (by decide +kernel) rfl rfl (Nat.le_of_ble_eq_true rfl) dX0_init_10 (fun H locs hP hD hS => ?_)
  have hP : va_P (dC, dI) vwCl [(h0, .inr (0, [.ref a1, .null, .int 0, .int 0, .int 0, .null, .int 0, .null])), (a1, .inl (c1, 300, .inr (.inl (fun _ => 0))))] H := hP
  have hD : va_D A [(h0, .inr (0, [.ref a1, .null, .int 0, .int 0, .int 0, .null, .int 0, .null])), (a1, .inl (c1, 300, .inr (.inl (fun _ => 0))))] := hD
  refine lv_aload_n hx hb dX0_init_13 rfl (lv_at hl 0 rfl) ?_
  refine lv_bipush (v := 16) hx hb dX0_init_14 (by decide) ?_
  refine va_newa (atype := .int) (ty := .int) (a0 := (16, .inl (fun _ => 0))) (N' := 16) hx hb (hts _ bw_ac_int) rfl hK hP hD hS hA (fun _ => rfl) (by decide) (by decide) (by decide) (by decide) (by decide) dX0_init_16 (fun a2 c2 H hK hP hD hS => ?_)
  have hP : va_P (dC, dI) vwCl [(h0, .inr (0, [.ref a1, .null, .int 0, .int 0, .int 0, .null, .int 0, .null])), (a1, .inl (c1, 300, .inr (.inl (fun _ => 0)))), (a2, .inl (c2, 16, .inl (fun _ => 0)))] H := hP
  have hD : va_D A [(h0, .inr (0, [.ref a1, .null, .int 0, .int 0, .int 0, .null, .int 0, .null])), (a1, .inl (c1, 300, .inr (.inl (fun _ => 0)))), (a2, .inl (c2, 16, .inl (fun _ => 0)))] := hD
  have hK : va_K (dC, dI) vwCl [(c1, .long), (c2, .int)] s := hK
  refine va_putF (D := (dC, dI)) (ci := 0) (v := .ref a2) (ty := .array .int) (C := RX0) (T := TX0) (N := 8) hx hb hts inX0 tyX0 tyX0_ok nmX0 hown hK hP hD hS 0 rfl rfl 1 (by decide) (hts _ bw_fl_X0_13) (fun _ h9 => h9) rfl hin rfl (by decide +kernel) rfl rfl (Nat.le_of_ble_eq_true rfl) dX0_init_18 (fun H locs hP hD hS => ?_)
  have hP : va_P (dC, dI) vwCl [(h0, .inr (0, [.ref a1, .ref a2, .int 0, .int 0, .int 0, .null, .int 0, .null])), (a1, .inl (c1, 300, .inr (.inl (fun _ => 0)))), (a2, .inl (c2, 16, .inl (fun _ => 0)))] H := hP
  have hD : va_D A [(h0, .inr (0, [.ref a1, .ref a2, .int 0, .int 0, .int 0, .null, .int 0, .null])), (a1, .inl (c1, 300, .inr (.inl (fun _ => 0)))), (a2, .inl (c2, 16, .inl (fun _ => 0)))] := hD
  refine lv_aload_n hx hb dX0_init_21 rfl (lv_at hl 0 rfl) ?_
  refine lv_iconst (v := 0) hx hb dX0_init_22 (by decide) ?_
  refine va_put (D := (dC, dI)) (ci := 0) (v := .int 0) (ty := .int) (C := RX0) (T := TX0) (N := 8) hx hb hts inX0 tyX0 tyX0_ok nmX0 hown hK hP hD hS 0 rfl rfl 2 (by decide) (hts _ bw_fl_X0_17) (fun _ h9 => h9) rfl (by decide +kernel) rfl rfl (Nat.le_of_ble_eq_true rfl) dX0_init_23 (fun H locs hP hD hS => ?_)
  have hP : va_P (dC, dI) vwCl [(h0, .inr (0, [.ref a1, .ref a2, .int 0, .int 0, .int 0, .null, .int 0, .null])), (a1, .inl (c1, 300, .inr (.inl (fun _ => 0)))), (a2, .inl (c2, 16, .inl (fun _ => 0)))] H := hP
  have hD : va_D A [(h0, .inr (0, [.ref a1, .ref a2, .int 0, .int 0, .int 0, .null, .int 0, .null])), (a1, .inl (c1, 300, .inr (.inl (fun _ => 0)))), (a2, .inl (c2, 16, .inl (fun _ => 0)))] := hD
  refine lv_aload_n hx hb dX0_init_26 rfl (lv_at hl 0 rfl) ?_
  refine lv_iconst (v := 0) hx hb dX0_init_27 (by decide) ?_
  refine va_put (D := (dC, dI)) (ci := 0) (v := .int 0) (ty := .int) (C := RX0) (T := TX0) (N := 8) hx hb hts inX0 tyX0 tyX0_ok nmX0 hown hK hP hD hS 0 rfl rfl 3 (by decide) (hts _ bw_fl_X0_21) (fun _ h9 => h9) rfl (by decide +kernel) rfl rfl (Nat.le_of_ble_eq_true rfl) dX0_init_28 (fun H locs hP hD hS => ?_)
  have hP : va_P (dC, dI) vwCl [(h0, .inr (0, [.ref a1, .ref a2, .int 0, .int 0, .int 0, .null, .int 0, .null])), (a1, .inl (c1, 300, .inr (.inl (fun _ => 0)))), (a2, .inl (c2, 16, .inl (fun _ => 0)))] H := hP
  have hD : va_D A [(h0, .inr (0, [.ref a1, .ref a2, .int 0, .int 0, .int 0, .null, .int 0, .null])), (a1, .inl (c1, 300, .inr (.inl (fun _ => 0)))), (a2, .inl (c2, 16, .inl (fun _ => 0)))] := hD
  refine lv_aload_n hx hb dX0_init_31 rfl (lv_at hl 0 rfl) ?_
  refine lv_iconst (v := 0) hx hb dX0_init_32 (by decide) ?_
  refine va_put (D := (dC, dI)) (ci := 0) (v := .int 0) (ty := .int) (C := RX0) (T := TX0) (N := 8) hx hb hts inX0 tyX0 tyX0_ok nmX0 hown hK hP hD hS 0 rfl rfl 4 (by decide) (hts _ bw_fl_X0_24) (fun _ h9 => h9) rfl (by decide +kernel) rfl rfl (Nat.le_of_ble_eq_true rfl) dX0_init_33 (fun H locs hP hD hS => ?_)
  have hP : va_P (dC, dI) vwCl [(h0, .inr (0, [.ref a1, .ref a2, .int 0, .int 0, .int 0, .null, .int 0, .null])), (a1, .inl (c1, 300, .inr (.inl (fun _ => 0)))), (a2, .inl (c2, 16, .inl (fun _ => 0)))] H := hP
  have hD : va_D A [(h0, .inr (0, [.ref a1, .ref a2, .int 0, .int 0, .int 0, .null, .int 0, .null])), (a1, .inl (c1, 300, .inr (.inl (fun _ => 0)))), (a2, .inl (c2, 16, .inl (fun _ => 0)))] := hD
  refine lv_aload_n hx hb dX0_init_36 rfl (lv_at hl 0 rfl) ?_
  refine lv_sipush (v := 300) hx hb dX0_init_37 (by decide) ?_
  refine va_newa (atype := .int) (ty := .int) (a0 := (300, .inl (fun _ => 0))) (N' := 300) hx hb (hts _ bw_ac_int) rfl hK hP hD hS hA (fun _ => rfl) (by decide) (by decide) (by decide) (by decide) (by decide) dX0_init_40 (fun a3 c3 H hK hP hD hS => ?_)
  have hP : va_P (dC, dI) vwCl [(h0, .inr (0, [.ref a1, .ref a2, .int 0, .int 0, .int 0, .null, .int 0, .null])), (a1, .inl (c1, 300, .inr (.inl (fun _ => 0)))), (a2, .inl (c2, 16, .inl (fun _ => 0))), (a3, .inl (c3, 300, .inl (fun _ => 0)))] H := hP
  have hD : va_D A [(h0, .inr (0, [.ref a1, .ref a2, .int 0, .int 0, .int 0, .null, .int 0, .null])), (a1, .inl (c1, 300, .inr (.inl (fun _ => 0)))), (a2, .inl (c2, 16, .inl (fun _ => 0))), (a3, .inl (c3, 300, .inl (fun _ => 0)))] := hD
  have hK : va_K (dC, dI) vwCl [(c1, .long), (c2, .int), (c3, .int)] s := hK
  refine va_putF (D := (dC, dI)) (ci := 0) (v := .ref a3) (ty := .array .int) (C := RX0) (T := TX0) (N := 8) hx hb hts inX0 tyX0 tyX0_ok nmX0 hown hK hP hD hS 0 rfl rfl 5 (by decide) (hts _ bw_fl_X0_27) (fun _ h9 => h9) rfl hin rfl (by decide +kernel) rfl rfl (Nat.le_of_ble_eq_true rfl) dX0_init_42 (fun H locs hP hD hS => ?_)
  have hP : va_P (dC, dI) vwCl [(h0, .inr (0, [.ref a1, .ref a2, .int 0, .int 0, .int 0, .ref a3, .int 0, .null])), (a1, .inl (c1, 300, .inr (.inl (fun _ => 0)))), (a2, .inl (c2, 16, .inl (fun _ => 0))), (a3, .inl (c3, 300, .inl (fun _ => 0)))] H := hP
  have hD : va_D A [(h0, .inr (0, [.ref a1, .ref a2, .int 0, .int 0, .int 0, .ref a3, .int 0, .null])), (a1, .inl (c1, 300, .inr (.inl (fun _ => 0)))), (a2, .inl (c2, 16, .inl (fun _ => 0))), (a3, .inl (c3, 300, .inl (fun _ => 0)))] := hD
  refine lv_aload_n hx hb dX0_init_45 rfl (lv_at hl 0 rfl) ?_
  refine lv_iconst (v := 0) hx hb dX0_init_46 (by decide) ?_
  refine va_put (D := (dC, dI)) (ci := 0) (v := .int 0) (ty := .int) (C := RX0) (T := TX0) (N := 8) hx hb hts inX0 tyX0 tyX0_ok nmX0 hown hK hP hD hS 0 rfl rfl 6 (by decide) (hts _ bw_fl_X0_30) (fun _ h9 => h9) rfl (by decide +kernel) rfl rfl (Nat.le_of_ble_eq_true rfl) dX0_init_47 (fun H locs hP hD hS => ?_)
  have hP : va_P (dC, dI) vwCl [(h0, .inr (0, [.ref a1, .ref a2, .int 0, .int 0, .int 0, .ref a3, .int 0, .null])), (a1, .inl (c1, 300, .inr (.inl (fun _ => 0)))), (a2, .inl (c2, 16, .inl (fun _ => 0))), (a3, .inl (c3, 300, .inl (fun _ => 0)))] H := hP
  have hD : va_D A [(h0, .inr (0, [.ref a1, .ref a2, .int 0, .int 0, .int 0, .ref a3, .int 0, .null])), (a1, .inl (c1, 300, .inr (.inl (fun _ => 0)))), (a2, .inl (c2, 16, .inl (fun _ => 0))), (a3, .inl (c3, 300, .inl (fun _ => 0)))] := hD
  refine lv_aload_n hx hb dX0_init_50 rfl (lv_at hl 0 rfl) ?_
  refine lv_sipush (v := 300) hx hb dX0_init_51 (by decide) ?_
  refine va_newa (atype := .int) (ty := .int) (a0 := (300, .inl (fun _ => 0))) (N' := 300) hx hb (hts _ bw_ac_int) rfl hK hP hD hS hA (fun _ => rfl) (by decide) (by decide) (by decide) (by decide) (by decide) dX0_init_54 (fun a4 c4 H hK hP hD hS => ?_)
  have hP : va_P (dC, dI) vwCl [(h0, .inr (0, [.ref a1, .ref a2, .int 0, .int 0, .int 0, .ref a3, .int 0, .null])), (a1, .inl (c1, 300, .inr (.inl (fun _ => 0)))), (a2, .inl (c2, 16, .inl (fun _ => 0))), (a3, .inl (c3, 300, .inl (fun _ => 0))), (a4, .inl (c4, 300, .inl (fun _ => 0)))] H := hP
  have hD : va_D A [(h0, .inr (0, [.ref a1, .ref a2, .int 0, .int 0, .int 0, .ref a3, .int 0, .null])), (a1, .inl (c1, 300, .inr (.inl (fun _ => 0)))), (a2, .inl (c2, 16, .inl (fun _ => 0))), (a3, .inl (c3, 300, .inl (fun _ => 0))), (a4, .inl (c4, 300, .inl (fun _ => 0)))] := hD
  have hK : va_K (dC, dI) vwCl [(c1, .long), (c2, .int), (c3, .int), (c4, .int)] s := hK
  refine va_putF (D := (dC, dI)) (ci := 0) (v := .ref a4) (ty := .array .int) (C := RX0) (T := TX0) (N := 8) hx hb hts inX0 tyX0 tyX0_ok nmX0 hown hK hP hD hS 0 rfl rfl 7 (by decide) (hts _ bw_fl_X0_33) (fun _ h9 => h9) rfl hin rfl (by decide +kernel) rfl rfl (Nat.le_of_ble_eq_true rfl) dX0_init_56 (fun H locs hP hD hS => ?_)
  have hP : va_P (dC, dI) vwCl [(h0, .inr (0, [.ref a1, .ref a2, .int 0, .int 0, .int 0, .ref a3, .int 0, .ref a4])), (a1, .inl (c1, 300, .inr (.inl (fun _ => 0)))), (a2, .inl (c2, 16, .inl (fun _ => 0))), (a3, .inl (c3, 300, .inl (fun _ => 0))), (a4, .inl (c4, 300, .inl (fun _ => 0)))] H := hP
  have hD : va_D A [(h0, .inr (0, [.ref a1, .ref a2, .int 0, .int 0, .int 0, .ref a3, .int 0, .ref a4])), (a1, .inl (c1, 300, .inr (.inl (fun _ => 0)))), (a2, .inl (c2, 16, .inl (fun _ => 0))), (a3, .inl (c3, 300, .inl (fun _ => 0))), (a4, .inl (c4, 300, .inl (fun _ => 0)))] := hD
  refine lv_aload_n hx hb dX0_init_59 rfl (lv_at hl 0 rfl) ?_
  refine va_get (D := (dC, dI)) (ci := 0) (v := .ref a2) (C := RX0) (T := TX0) (N := 8) hx hb hts inX0 hown hK hP 0 rfl rfl 1 (by decide) (hts _ bw_fl_X0_13) (fun _ h9 => h9) rfl dX0_init_60 ?_
  refine lv_iconst (v := (-1)) hx hb dX0_init_63 (by decide) ?_
  have hPc := hP.sub (ws' := [(a2, .inl (c2, 16, .inl (fun _ => 0)))]) [2] rfl
  have hDc := hD.sub (ws' := [(a2, .inl (c2, 16, .inl (fun _ => 0)))]) [2] (by decide) rfl
  have hKc := hK.sub (tys' := [(c2, .int)]) [1] rfl
  have hFc := va_free (wc := [(a2, .inl (c2, 16, .inl (fun _ => 0)))]) hD hS hA [2] rfl
  refine va_callv (va_runS (As := [.ref a2, .int (-1)]) (rest := []) ⟨hx, hb, hml, hown, hts⟩ (c_J7_fill l dC dI a2 c2 16 (by decide) (fun _ => 0) _ (-1)) (va_cwS 2 hts gw_X0_36 rfl rfl rfl ⟨by decide, by decide, by decide +kernel⟩ ⟨Nat.le_of_ble_eq_true rfl, Nat.le_of_ble_eq_true rfl⟩) ⟨hw_blind, hw_pay hPc hKc hDc⟩ rfl rfl hl.1 rfl (lv_room (Nat.le_of_ble_eq_true rfl)) dX0_init_64 ⟨by decide, by decide⟩) hS (fun q _ h => hFc q h) hFc (fun u t H1 locs ht hvm hw hB hz1 hk1 hS => ?_)
  obtain ⟨hP1, hK1, hD1⟩ := hB
  rw [ht] at hP1
  obtain ⟨hP, hD⟩ := va_join (wr := [(h0, .inr (0, [.ref a1, .ref a2, .int 0, .int 0, .int 0, .ref a3, .int 0, .ref a4])), (a1, .inl (c1, 300, .inr (.inl (fun _ => 0)))), (a3, .inl (c3, 300, .inl (fun _ => 0))), (a4, .inl (c4, 300, .inl (fun _ => 0)))]) (w1 := [(a2, .inl (c2, 16, .inl u))]) hP hD [2] [0, 1, 3, 4] rfl rfl (by decide) (by decide) hk1 hFc hP1 hD1
  clear hk1 hFc hP1 hD1 hPc hDc hz1
  generalize H1 = H at hP hS ⊢
  have hP : va_P (dC, dI) vwCl [(h0, .inr (0, [.ref a1, .ref a2, .int 0, .int 0, .int 0, .ref a3, .int 0, .ref a4])), (a1, .inl (c1, 300, .inr (.inl (fun _ => 0)))), (a3, .inl (c3, 300, .inl (fun _ => 0))), (a4, .inl (c4, 300, .inl (fun _ => 0))), (a2, .inl (c2, 16, .inl u))] H := hP
  have hD : va_D A [(h0, .inr (0, [.ref a1, .ref a2, .int 0, .int 0, .int 0, .ref a3, .int 0, .ref a4])), (a1, .inl (c1, 300, .inr (.inl (fun _ => 0)))), (a3, .inl (c3, 300, .inl (fun _ => 0))), (a4, .inl (c4, 300, .inl (fun _ => 0))), (a2, .inl (c2, 16, .inl u))] := hD
  have hP := hP.sub (ws' := [(h0, .inr (0, [.ref a1, .ref a2, .int 0, .int 0, .int 0, .ref a3, .int 0, .ref a4])), (a1, .inl (c1, 300, .inr (.inl (fun _ => 0)))), (a2, .inl (c2, 16, .inl u)), (a3, .inl (c3, 300, .inl (fun _ => 0))), (a4, .inl (c4, 300, .inl (fun _ => 0)))]) [0, 1, 4, 2, 3] rfl
  have hD := hD.sub (ws' := [(h0, .inr (0, [.ref a1, .ref a2, .int 0, .int 0, .int 0, .ref a3, .int 0, .ref a4])), (a1, .inl (c1, 300, .inr (.inl (fun _ => 0)))), (a2, .inl (c2, 16, .inl u)), (a3, .inl (c3, 300, .inl (fun _ => 0))), (a4, .inl (c4, 300, .inl (fun _ => 0)))]) [0, 1, 4, 2, 3] (by decide) rfl
  subst hQ9
  refine W.widen (k := 4) (n := 916) (by decide) (by decide) ?_
  exact W.vret hx hb hr (fun t ht hWm => ⟨⟨(a1, a2, a3, a4, c1, c2, c3, c4, u), rfl, hw, by rw [ht]; exact hP, va_K.moved hWm.alike hK, hD⟩, hS.F ht⟩) hS.2.2 dX0_init_67

set_option maxHeartbeats 4000000 in
set_option maxRecDepth 100000 in
theorem c_X1_init (l : Launch) (dC : Nat → ClassId) (dI : Nat → Nat → Nat) (g0 : Nat) (sz : Nat) : Met l yX1_init wsX1_init ({ frames := 2, cells := 8, slots := 25601, locals := 50 }) (va_Pc [.ref g0] (hw_pre (dC, dI) vwCl [] [(g0, .inr (1, [.int 0, .null, .null, .null, .null, .null, .null, .null, .null, .int 0, .int 0, .int 0]))] sz)) (va_Qv (fun _ : Nat × Nat × Nat × Nat × Nat × Nat × Nat × Nat × ClassId × ClassId × ClassId × ClassId × ClassId × ClassId × ClassId × ClassId => True) (fun u t => hw_B (dC, dI) vwCl ((fun u : Nat × Nat × Nat × Nat × Nat × Nat × Nat × Nat × ClassId × ClassId × ClassId × ClassId × ClassId × ClassId × ClassId × ClassId => [(u.2.2.2.2.2.2.2.2.1, .int), (u.2.2.2.2.2.2.2.2.2.1, .int), (u.2.2.2.2.2.2.2.2.2.2.1, .int), (u.2.2.2.2.2.2.2.2.2.2.2.1, .int), (u.2.2.2.2.2.2.2.2.2.2.2.2.1, .long), (u.2.2.2.2.2.2.2.2.2.2.2.2.2.1, .boolean), (u.2.2.2.2.2.2.2.2.2.2.2.2.2.2.1, .int), (u.2.2.2.2.2.2.2.2.2.2.2.2.2.2.2, .int)]) u) (va_A [(g0, .inr (1, [.int 0, .null, .null, .null, .null, .null, .null, .null, .null, .int 0, .int 0, .int 0]))] sz) ((fun u : Nat × Nat × Nat × Nat × Nat × Nat × Nat × Nat × ClassId × ClassId × ClassId × ClassId × ClassId × ClassId × ClassId × ClassId => [(g0, .inr (1, [.int 0, .ref u.1, .ref u.2.1, .ref u.2.2.1, .ref u.2.2.2.1, .ref u.2.2.2.2.1, .ref u.2.2.2.2.2.1, .ref u.2.2.2.2.2.2.1, .ref u.2.2.2.2.2.2.2.1, .int 0, .int 0, .int 0])), (u.1, .inl (u.2.2.2.2.2.2.2.2.1, 301, .inl (fun _ => 0))), (u.2.1, .inl (u.2.2.2.2.2.2.2.2.2.1, 301, .inl (fun _ => 0))), (u.2.2.1, .inl (u.2.2.2.2.2.2.2.2.2.2.1, 301, .inl (fun _ => 0))), (u.2.2.2.1, .inl (u.2.2.2.2.2.2.2.2.2.2.2.1, 12040, .inl (fun _ => 0))), (u.2.2.2.2.1, .inl (u.2.2.2.2.2.2.2.2.2.2.2.2.1, 12040, .inr (.inl (fun _ => 0)))), (u.2.2.2.2.2.1, .inl (u.2.2.2.2.2.2.2.2.2.2.2.2.2.1, 301, .inl (fun _ => 0))), (u.2.2.2.2.2.2.1, .inl (u.2.2.2.2.2.2.2.2.2.2.2.2.2.2.1, 16, .inl (fun _ => 0))), (u.2.2.2.2.2.2.2.1, .inl (u.2.2.2.2.2.2.2.2.2.2.2.2.2.2.2, 301, .inl (fun _ => 0)))]) u) t) (va_A [(g0, .inr (1, [.int 0, .null, .null, .null, .null, .null, .null, .null, .null, .int 0, .int 0, .int 0]))] sz)) 8 25601 (va_A [(g0, .inr (1, [.int 0, .null, .null, .null, .null, .null, .null, .null, .null, .int 0, .int 0, .int 0]))] sz) := by
  refine Met.ofW (cc := cX1_init) (maxL := 1) (ret := none) (by decide) rfl ?_
  intro p e s m args below meth c s₁ B hml hv
  obtain ⟨hargs, hsz, hP, hK, hD0⟩ := hv
  have hx := B.exec
  have hb := B.bytes
  have hr := B.returns
  have hts : ∀ w ∈ wb, w.before _ s = true := fun w h => atoms_spec (ws := wsX1_init) B.pre w (List.mem_cons_of_mem _ h)
  have hown : s.vm.findClass RX1 = some m.cls := findClass_of_methodNamed B.named
  have hlocks := B.notSynchronized
  have hin : meth.name = "<init>" := (name_of_methodNamed B.named B.method).1
  subst hsz
  have hD := hD0.self (sz := s.heap.size)
  generalize hAe : va_A [(g0, .inr (1, [.int 0, .null, .null, .null, .null, .null, .null, .null, .null, .int 0, .int 0, .int 0]))] s.heap.size = A at hD ⊢
  have hA : ∀ q : Nat, s.heap.size ≤ q → A q := fun q h => by rw [← hAe]; exact Or.inr h
  have hS : va_S A s.heap s.heap [] := va_S.rf
  generalize hQ9 : MQ below (va_Qv (fun _ : Nat × Nat × Nat × Nat × Nat × Nat × Nat × Nat × ClassId × ClassId × ClassId × ClassId × ClassId × ClassId × ClassId × ClassId => True) (fun u t => hw_B (dC, dI) vwCl ((fun u : Nat × Nat × Nat × Nat × Nat × Nat × Nat × Nat × ClassId × ClassId × ClassId × ClassId × ClassId × ClassId × ClassId × ClassId => [(u.2.2.2.2.2.2.2.2.1, .int), (u.2.2.2.2.2.2.2.2.2.1, .int), (u.2.2.2.2.2.2.2.2.2.2.1, .int), (u.2.2.2.2.2.2.2.2.2.2.2.1, .int), (u.2.2.2.2.2.2.2.2.2.2.2.2.1, .long), (u.2.2.2.2.2.2.2.2.2.2.2.2.2.1, .boolean), (u.2.2.2.2.2.2.2.2.2.2.2.2.2.2.1, .int), (u.2.2.2.2.2.2.2.2.2.2.2.2.2.2.2, .int)]) u) A ((fun u : Nat × Nat × Nat × Nat × Nat × Nat × Nat × Nat × ClassId × ClassId × ClassId × ClassId × ClassId × ClassId × ClassId × ClassId => [(g0, .inr (1, [.int 0, .ref u.1, .ref u.2.1, .ref u.2.2.1, .ref u.2.2.2.1, .ref u.2.2.2.2.1, .ref u.2.2.2.2.2.1, .ref u.2.2.2.2.2.2.1, .ref u.2.2.2.2.2.2.2.1, .int 0, .int 0, .int 0])), (u.1, .inl (u.2.2.2.2.2.2.2.2.1, 301, .inl (fun _ => 0))), (u.2.1, .inl (u.2.2.2.2.2.2.2.2.2.1, 301, .inl (fun _ => 0))), (u.2.2.1, .inl (u.2.2.2.2.2.2.2.2.2.2.1, 301, .inl (fun _ => 0))), (u.2.2.2.1, .inl (u.2.2.2.2.2.2.2.2.2.2.2.1, 12040, .inl (fun _ => 0))), (u.2.2.2.2.1, .inl (u.2.2.2.2.2.2.2.2.2.2.2.2.1, 12040, .inr (.inl (fun _ => 0)))), (u.2.2.2.2.2.1, .inl (u.2.2.2.2.2.2.2.2.2.2.2.2.2.1, 301, .inl (fun _ => 0))), (u.2.2.2.2.2.2.1, .inl (u.2.2.2.2.2.2.2.2.2.2.2.2.2.2.1, 16, .inl (fun _ => 0))), (u.2.2.2.2.2.2.2.1, .inl (u.2.2.2.2.2.2.2.2.2.2.2.2.2.2.2, 301, .inl (fun _ => 0)))]) u) t) A) args s 8 25601 A = Q9
  have hl := lv_entry ([.ref g0]) (n := 1) (Nat.le_of_ble_eq_true rfl)
  rw [show entryFrame m args 1 = _ from (congrArg (fun z => entryFrame m z 1) hargs).trans (lg_entry_eq m [.ref g0] 1)]
  generalize (lg_sl ([.ref g0]) ++ List.replicate (1 - (lg_sl ([.ref g0])).length) Slot.unset).toArray = ls at hl ⊢
  have hl : lv_has ls 1 [(0, .ref g0)] := hl
  obtain ⟨H, hH⟩ : ∃ H, H = s.heap := ⟨_, rfl⟩
  rw [← hH] at hP
  have hS : va_S A s.heap H [] := by rw [hH]; exact hS
  rw [← hH]
  generalize ([] : List Loc) = locs at hS ⊢
  refine lv_aload_n hx hb dX1_init_0 rfl (lv_at hl 0 rfl) ?_
  refine W.objInit hx hb hown (hts _ bw_ml_X1_1) (hts _ bw_im_objectInit) (hts _ bw_co_objectInit) rfl (by rw [hml]; exact hl.1) rfl dX1_init_1 (Nat.le_of_ble_eq_true rfl) (Nat.le_of_ble_eq_true rfl) ?_
  refine W.eq (g2 := F0 m 4 ls []) rfl ?_
  refine lv_aload_n hx hb dX1_init_4 rfl (lv_at hl 0 rfl) ?_
  refine lv_sipush (v := 301) hx hb dX1_init_5 (by decide) ?_
  refine va_newa (atype := .int) (ty := .int) (a0 := (301, .inl (fun _ => 0))) (N' := 301) hx hb (hts _ bw_ac_int) rfl hK hP hD hS hA (fun _ => rfl) (by decide) (by decide) (by decide) (by decide) (by decide) dX1_init_8 (fun b1 e1 H hK hP hD hS => ?_)
  have hP : va_P (dC, dI) vwCl [(g0, .inr (1, [.int 0, .null, .null, .null, .null, .null, .null, .null, .null, .int 0, .int 0, .int 0])), (b1, .inl (e1, 301, .inl (fun _ => 0)))] H := hP
  have hD : va_D A [(g0, .inr (1, [.int 0, .null, .null, .null, .null, .null, .null, .null, .null, .int 0, .int 0, .int 0])), (b1, .inl (e1, 301, .inl (fun _ => 0)))] := hD
  have hK : va_K (dC, dI) vwCl [(e1, .int)] s := hK
  refine va_putF (D := (dC, dI)) (ci := 1) (v := .ref b1) (ty := .array .int) (C := RX1) (T := TX1) (N := 12) hx hb hts inX1 tyX1 tyX1_ok nmX1 hown hK hP hD hS 0 rfl rfl 1 (by decide) (hts _ bw_fl_X1_7) (fun _ h9 => h9) rfl hin rfl (by decide +kernel) rfl rfl (Nat.le_of_ble_eq_true rfl) dX1_init_10 (fun H locs hP hD hS => ?_)
  have hP : va_P (dC, dI) vwCl [(g0, .inr (1, [.int 0, .ref b1, .null, .null, .null, .null, .null, .null, .null, .int 0, .int 0, .int 0])), (b1, .inl (e1, 301, .inl (fun _ => 0)))] H := hP
  have hD : va_D A [(g0, .inr (1, [.int 0, .ref b1, .null, .null, .null, .null, .null, .null, .null, .int 0, .int 0, .int 0])), (b1, .inl (e1, 301, .inl (fun _ => 0)))] := hD
  refine lv_aload_n hx hb dX1_init_13 rfl (lv_at hl 0 rfl) ?_
  refine lv_sipush (v := 301) hx hb dX1_init_14 (by decide) ?_
  refine va_newa (atype := .int) (ty := .int) (a0 := (301, .inl (fun _ => 0))) (N' := 301) hx hb (hts _ bw_ac_int) rfl hK hP hD hS hA (fun _ => rfl) (by decide) (by decide) (by decide) (by decide) (by decide) dX1_init_17 (fun b2 e2 H hK hP hD hS => ?_)
  have hP : va_P (dC, dI) vwCl [(g0, .inr (1, [.int 0, .ref b1, .null, .null, .null, .null, .null, .null, .null, .int 0, .int 0, .int 0])), (b1, .inl (e1, 301, .inl (fun _ => 0))), (b2, .inl (e2, 301, .inl (fun _ => 0)))] H := hP
  have hD : va_D A [(g0, .inr (1, [.int 0, .ref b1, .null, .null, .null, .null, .null, .null, .null, .int 0, .int 0, .int 0])), (b1, .inl (e1, 301, .inl (fun _ => 0))), (b2, .inl (e2, 301, .inl (fun _ => 0)))] := hD
  have hK : va_K (dC, dI) vwCl [(e1, .int), (e2, .int)] s := hK
  refine va_putF (D := (dC, dI)) (ci := 1) (v := .ref b2) (ty := .array .int) (C := RX1) (T := TX1) (N := 12) hx hb hts inX1 tyX1 tyX1_ok nmX1 hown hK hP hD hS 0 rfl rfl 2 (by decide) (hts _ bw_fl_X1_13) (fun _ h9 => h9) rfl hin rfl (by decide +kernel) rfl rfl (Nat.le_of_ble_eq_true rfl) dX1_init_19 (fun H locs hP hD hS => ?_)
  have hP : va_P (dC, dI) vwCl [(g0, .inr (1, [.int 0, .ref b1, .ref b2, .null, .null, .null, .null, .null, .null, .int 0, .int 0, .int 0])), (b1, .inl (e1, 301, .inl (fun _ => 0))), (b2, .inl (e2, 301, .inl (fun _ => 0)))] H := hP
  have hD : va_D A [(g0, .inr (1, [.int 0, .ref b1, .ref b2, .null, .null, .null, .null, .null, .null, .int 0, .int 0, .int 0])), (b1, .inl (e1, 301, .inl (fun _ => 0))), (b2, .inl (e2, 301, .inl (fun _ => 0)))] := hD
  refine lv_aload_n hx hb dX1_init_22 rfl (lv_at hl 0 rfl) ?_
  refine lv_sipush (v := 301) hx hb dX1_init_23 (by decide) ?_
  refine va_newa (atype := .int) (ty := .int) (a0 := (301, .inl (fun _ => 0))) (N' := 301) hx hb (hts _ bw_ac_int) rfl hK hP hD hS hA (fun _ => rfl) (by decide) (by decide) (by decide) (by decide) (by decide) dX1_init_26 (fun b3 e3 H hK hP hD hS => ?_)
  have hP : va_P (dC, dI) vwCl [(g0, .inr (1, [.int 0, .ref b1, .ref b2, .null, .null, .null, .null, .null, .null, .int 0, .int 0, .int 0])), (b1, .inl (e1, 301, .inl (fun _ => 0))), (b2, .inl (e2, 301, .inl (fun _ => 0))), (b3, .inl (e3, 301, .inl (fun _ => 0)))] H := hP
  have hD : va_D A [(g0, .inr (1, [.int 0, .ref b1, .ref b2, .null, .null, .null, .null, .null, .null, .int 0, .int 0, .int 0])), (b1, .inl (e1, 301, .inl (fun _ => 0))), (b2, .inl (e2, 301, .inl (fun _ => 0))), (b3, .inl (e3, 301, .inl (fun _ => 0)))] := hD
  have hK : va_K (dC, dI) vwCl [(e1, .int), (e2, .int), (e3, .int)] s := hK
  refine va_putF (D := (dC, dI)) (ci := 1) (v := .ref b3) (ty := .array .int) (C := RX1) (T := TX1) (N := 12) hx hb hts inX1 tyX1 tyX1_ok nmX1 hown hK hP hD hS 0 rfl rfl 3 (by decide) (hts _ bw_fl_X1_16) (fun _ h9 => h9) rfl hin rfl (by decide +kernel) rfl rfl (Nat.le_of_ble_eq_true rfl) dX1_init_28 (fun H locs hP hD hS => ?_)
  have hP : va_P (dC, dI) vwCl [(g0, .inr (1, [.int 0, .ref b1, .ref b2, .ref b3, .null, .null, .null, .null, .null, .int 0, .int 0, .int 0])), (b1, .inl (e1, 301, .inl (fun _ => 0))), (b2, .inl (e2, 301, .inl (fun _ => 0))), (b3, .inl (e3, 301, .inl (fun _ => 0)))] H := hP
  have hD : va_D A [(g0, .inr (1, [.int 0, .ref b1, .ref b2, .ref b3, .null, .null, .null, .null, .null, .int 0, .int 0, .int 0])), (b1, .inl (e1, 301, .inl (fun _ => 0))), (b2, .inl (e2, 301, .inl (fun _ => 0))), (b3, .inl (e3, 301, .inl (fun _ => 0)))] := hD
  refine lv_aload_n hx hb dX1_init_31 rfl (lv_at hl 0 rfl) ?_
  refine lv_sipush (v := 12040) hx hb dX1_init_32 (by decide) ?_
  refine va_newa (atype := .int) (ty := .int) (a0 := (12040, .inl (fun _ => 0))) (N' := 12040) hx hb (hts _ bw_ac_int) rfl hK hP hD hS hA (fun _ => rfl) (by decide) (by decide) (by decide) (by decide) (by decide) dX1_init_35 (fun b4 e4 H hK hP hD hS => ?_)
  have hP : va_P (dC, dI) vwCl [(g0, .inr (1, [.int 0, .ref b1, .ref b2, .ref b3, .null, .null, .null, .null, .null, .int 0, .int 0, .int 0])), (b1, .inl (e1, 301, .inl (fun _ => 0))), (b2, .inl (e2, 301, .inl (fun _ => 0))), (b3, .inl (e3, 301, .inl (fun _ => 0))), (b4, .inl (e4, 12040, .inl (fun _ => 0)))] H := hP
  have hD : va_D A [(g0, .inr (1, [.int 0, .ref b1, .ref b2, .ref b3, .null, .null, .null, .null, .null, .int 0, .int 0, .int 0])), (b1, .inl (e1, 301, .inl (fun _ => 0))), (b2, .inl (e2, 301, .inl (fun _ => 0))), (b3, .inl (e3, 301, .inl (fun _ => 0))), (b4, .inl (e4, 12040, .inl (fun _ => 0)))] := hD
  have hK : va_K (dC, dI) vwCl [(e1, .int), (e2, .int), (e3, .int), (e4, .int)] s := hK
  refine va_putF (D := (dC, dI)) (ci := 1) (v := .ref b4) (ty := .array .int) (C := RX1) (T := TX1) (N := 12) hx hb hts inX1 tyX1 tyX1_ok nmX1 hown hK hP hD hS 0 rfl rfl 4 (by decide) (hts _ bw_fl_X1_19) (fun _ h9 => h9) rfl hin rfl (by decide +kernel) rfl rfl (Nat.le_of_ble_eq_true rfl) dX1_init_37 (fun H locs hP hD hS => ?_)
  have hP : va_P (dC, dI) vwCl [(g0, .inr (1, [.int 0, .ref b1, .ref b2, .ref b3, .ref b4, .null, .null, .null, .null, .int 0, .int 0, .int 0])), (b1, .inl (e1, 301, .inl (fun _ => 0))), (b2, .inl (e2, 301, .inl (fun _ => 0))), (b3, .inl (e3, 301, .inl (fun _ => 0))), (b4, .inl (e4, 12040, .inl (fun _ => 0)))] H := hP
  have hD : va_D A [(g0, .inr (1, [.int 0, .ref b1, .ref b2, .ref b3, .ref b4, .null, .null, .null, .null, .int 0, .int 0, .int 0])), (b1, .inl (e1, 301, .inl (fun _ => 0))), (b2, .inl (e2, 301, .inl (fun _ => 0))), (b3, .inl (e3, 301, .inl (fun _ => 0))), (b4, .inl (e4, 12040, .inl (fun _ => 0)))] := hD
  refine lv_aload_n hx hb dX1_init_40 rfl (lv_at hl 0 rfl) ?_
  refine lv_sipush (v := 12040) hx hb dX1_init_41 (by decide) ?_
  refine va_newa (atype := .long) (ty := .long) (a0 := (12040, .inr (.inl (fun _ => 0)))) (N' := 12040) hx hb (hts _ bw_ac_long) rfl hK hP hD hS hA (fun _ => rfl) (by decide) (by decide) (by decide) (by decide) (by decide) dX1_init_44 (fun b5 e5 H hK hP hD hS => ?_)
  have hP : va_P (dC, dI) vwCl [(g0, .inr (1, [.int 0, .ref b1, .ref b2, .ref b3, .ref b4, .null, .null, .null, .null, .int 0, .int 0, .int 0])), (b1, .inl (e1, 301, .inl (fun _ => 0))), (b2, .inl (e2, 301, .inl (fun _ => 0))), (b3, .inl (e3, 301, .inl (fun _ => 0))), (b4, .inl (e4, 12040, .inl (fun _ => 0))), (b5, .inl (e5, 12040, .inr (.inl (fun _ => 0))))] H := hP
  have hD : va_D A [(g0, .inr (1, [.int 0, .ref b1, .ref b2, .ref b3, .ref b4, .null, .null, .null, .null, .int 0, .int 0, .int 0])), (b1, .inl (e1, 301, .inl (fun _ => 0))), (b2, .inl (e2, 301, .inl (fun _ => 0))), (b3, .inl (e3, 301, .inl (fun _ => 0))), (b4, .inl (e4, 12040, .inl (fun _ => 0))), (b5, .inl (e5, 12040, .inr (.inl (fun _ => 0))))] := hD
  have hK : va_K (dC, dI) vwCl [(e1, .int), (e2, .int), (e3, .int), (e4, .int), (e5, .long)] s := hK
  refine va_putF (D := (dC, dI)) (ci := 1) (v := .ref b5) (ty := .array .long) (C := RX1) (T := TX1) (N := 12) hx hb hts inX1 tyX1 tyX1_ok nmX1 hown hK hP hD hS 0 rfl rfl 5 (by decide) (hts _ bw_fl_X1_22) (fun _ h9 => h9) rfl hin rfl (by decide +kernel) rfl rfl (Nat.le_of_ble_eq_true rfl) dX1_init_46 (fun H locs hP hD hS => ?_)
  have hP : va_P (dC, dI) vwCl [(g0, .inr (1, [.int 0, .ref b1, .ref b2, .ref b3, .ref b4, .ref b5, .null, .null, .null, .int 0, .int 0, .int 0])), (b1, .inl (e1, 301, .inl (fun _ => 0))), (b2, .inl (e2, 301, .inl (fun _ => 0))), (b3, .inl (e3, 301, .inl (fun _ => 0))), (b4, .inl (e4, 12040, .inl (fun _ => 0))), (b5, .inl (e5, 12040, .inr (.inl (fun _ => 0))))] H := hP
  have hD : va_D A [(g0, .inr (1, [.int 0, .ref b1, .ref b2, .ref b3, .ref b4, .ref b5, .null, .null, .null, .int 0, .int 0, .int 0])), (b1, .inl (e1, 301, .inl (fun _ => 0))), (b2, .inl (e2, 301, .inl (fun _ => 0))), (b3, .inl (e3, 301, .inl (fun _ => 0))), (b4, .inl (e4, 12040, .inl (fun _ => 0))), (b5, .inl (e5, 12040, .inr (.inl (fun _ => 0))))] := hD
  refine lv_aload_n hx hb dX1_init_49 rfl (lv_at hl 0 rfl) ?_
  refine lv_sipush (v := 301) hx hb dX1_init_50 (by decide) ?_
  refine va_newa (atype := .boolean) (ty := .boolean) (a0 := (301, .inl (fun _ => 0))) (N' := 301) hx hb (hts _ bw_ac_boolean) rfl hK hP hD hS hA (fun _ => rfl) (by decide) (by decide) (by decide) (by decide) (by decide) dX1_init_53 (fun b6 e6 H hK hP hD hS => ?_)
  have hP : va_P (dC, dI) vwCl [(g0, .inr (1, [.int 0, .ref b1, .ref b2, .ref b3, .ref b4, .ref b5, .null, .null, .null, .int 0, .int 0, .int 0])), (b1, .inl (e1, 301, .inl (fun _ => 0))), (b2, .inl (e2, 301, .inl (fun _ => 0))), (b3, .inl (e3, 301, .inl (fun _ => 0))), (b4, .inl (e4, 12040, .inl (fun _ => 0))), (b5, .inl (e5, 12040, .inr (.inl (fun _ => 0)))), (b6, .inl (e6, 301, .inl (fun _ => 0)))] H := hP
  have hD : va_D A [(g0, .inr (1, [.int 0, .ref b1, .ref b2, .ref b3, .ref b4, .ref b5, .null, .null, .null, .int 0, .int 0, .int 0])), (b1, .inl (e1, 301, .inl (fun _ => 0))), (b2, .inl (e2, 301, .inl (fun _ => 0))), (b3, .inl (e3, 301, .inl (fun _ => 0))), (b4, .inl (e4, 12040, .inl (fun _ => 0))), (b5, .inl (e5, 12040, .inr (.inl (fun _ => 0)))), (b6, .inl (e6, 301, .inl (fun _ => 0)))] := hD
  have hK : va_K (dC, dI) vwCl [(e1, .int), (e2, .int), (e3, .int), (e4, .int), (e5, .long), (e6, .boolean)] s := hK
  refine va_putF (D := (dC, dI)) (ci := 1) (v := .ref b6) (ty := .array .boolean) (C := RX1) (T := TX1) (N := 12) hx hb hts inX1 tyX1 tyX1_ok nmX1 hown hK hP hD hS 0 rfl rfl 6 (by decide) (hts _ bw_fl_X1_26) (fun _ h9 => h9) rfl hin rfl (by decide +kernel) rfl rfl (Nat.le_of_ble_eq_true rfl) dX1_init_55 (fun H locs hP hD hS => ?_)
  have hP : va_P (dC, dI) vwCl [(g0, .inr (1, [.int 0, .ref b1, .ref b2, .ref b3, .ref b4, .ref b5, .ref b6, .null, .null, .int 0, .int 0, .int 0])), (b1, .inl (e1, 301, .inl (fun _ => 0))), (b2, .inl (e2, 301, .inl (fun _ => 0))), (b3, .inl (e3, 301, .inl (fun _ => 0))), (b4, .inl (e4, 12040, .inl (fun _ => 0))), (b5, .inl (e5, 12040, .inr (.inl (fun _ => 0)))), (b6, .inl (e6, 301, .inl (fun _ => 0)))] H := hP
  have hD : va_D A [(g0, .inr (1, [.int 0, .ref b1, .ref b2, .ref b3, .ref b4, .ref b5, .ref b6, .null, .null, .int 0, .int 0, .int 0])), (b1, .inl (e1, 301, .inl (fun _ => 0))), (b2, .inl (e2, 301, .inl (fun _ => 0))), (b3, .inl (e3, 301, .inl (fun _ => 0))), (b4, .inl (e4, 12040, .inl (fun _ => 0))), (b5, .inl (e5, 12040, .inr (.inl (fun _ => 0)))), (b6, .inl (e6, 301, .inl (fun _ => 0)))] := hD
  refine lv_aload_n hx hb dX1_init_58 rfl (lv_at hl 0 rfl) ?_
  refine lv_bipush (v := 16) hx hb dX1_init_59 (by decide) ?_
  refine va_newa (atype := .int) (ty := .int) (a0 := (16, .inl (fun _ => 0))) (N' := 16) hx hb (hts _ bw_ac_int) rfl hK hP hD hS hA (fun _ => rfl) (by decide) (by decide) (by decide) (by decide) (by decide) dX1_init_61 (fun b7 e7 H hK hP hD hS => ?_)
  have hP : va_P (dC, dI) vwCl [(g0, .inr (1, [.int 0, .ref b1, .ref b2, .ref b3, .ref b4, .ref b5, .ref b6, .null, .null, .int 0, .int 0, .int 0])), (b1, .inl (e1, 301, .inl (fun _ => 0))), (b2, .inl (e2, 301, .inl (fun _ => 0))), (b3, .inl (e3, 301, .inl (fun _ => 0))), (b4, .inl (e4, 12040, .inl (fun _ => 0))), (b5, .inl (e5, 12040, .inr (.inl (fun _ => 0)))), (b6, .inl (e6, 301, .inl (fun _ => 0))), (b7, .inl (e7, 16, .inl (fun _ => 0)))] H := hP
  have hD : va_D A [(g0, .inr (1, [.int 0, .ref b1, .ref b2, .ref b3, .ref b4, .ref b5, .ref b6, .null, .null, .int 0, .int 0, .int 0])), (b1, .inl (e1, 301, .inl (fun _ => 0))), (b2, .inl (e2, 301, .inl (fun _ => 0))), (b3, .inl (e3, 301, .inl (fun _ => 0))), (b4, .inl (e4, 12040, .inl (fun _ => 0))), (b5, .inl (e5, 12040, .inr (.inl (fun _ => 0)))), (b6, .inl (e6, 301, .inl (fun _ => 0))), (b7, .inl (e7, 16, .inl (fun _ => 0)))] := hD
  have hK : va_K (dC, dI) vwCl [(e1, .int), (e2, .int), (e3, .int), (e4, .int), (e5, .long), (e6, .boolean), (e7, .int)] s := hK
  refine va_putF (D := (dC, dI)) (ci := 1) (v := .ref b7) (ty := .array .int) (C := RX1) (T := TX1) (N := 12) hx hb hts inX1 tyX1 tyX1_ok nmX1 hown hK hP hD hS 0 rfl rfl 7 (by decide) (hts _ bw_fl_X1_30) (fun _ h9 => h9) rfl hin rfl (by decide +kernel) rfl rfl (Nat.le_of_ble_eq_true rfl) dX1_init_63 (fun H locs hP hD hS => ?_)
  have hP : va_P (dC, dI) vwCl [(g0, .inr (1, [.int 0, .ref b1, .ref b2, .ref b3, .ref b4, .ref b5, .ref b6, .ref b7, .null, .int 0, .int 0, .int 0])), (b1, .inl (e1, 301, .inl (fun _ => 0))), (b2, .inl (e2, 301, .inl (fun _ => 0))), (b3, .inl (e3, 301, .inl (fun _ => 0))), (b4, .inl (e4, 12040, .inl (fun _ => 0))), (b5, .inl (e5, 12040, .inr (.inl (fun _ => 0)))), (b6, .inl (e6, 301, .inl (fun _ => 0))), (b7, .inl (e7, 16, .inl (fun _ => 0)))] H := hP
  have hD : va_D A [(g0, .inr (1, [.int 0, .ref b1, .ref b2, .ref b3, .ref b4, .ref b5, .ref b6, .ref b7, .null, .int 0, .int 0, .int 0])), (b1, .inl (e1, 301, .inl (fun _ => 0))), (b2, .inl (e2, 301, .inl (fun _ => 0))), (b3, .inl (e3, 301, .inl (fun _ => 0))), (b4, .inl (e4, 12040, .inl (fun _ => 0))), (b5, .inl (e5, 12040, .inr (.inl (fun _ => 0)))), (b6, .inl (e6, 301, .inl (fun _ => 0))), (b7, .inl (e7, 16, .inl (fun _ => 0)))] := hD
  refine lv_aload_n hx hb dX1_init_66 rfl (lv_at hl 0 rfl) ?_
  refine lv_sipush (v := 301) hx hb dX1_init_67 (by decide) ?_
  refine va_newa (atype := .int) (ty := .int) (a0 := (301, .inl (fun _ => 0))) (N' := 301) hx hb (hts _ bw_ac_int) rfl hK hP hD hS hA (fun _ => rfl) (by decide) (by decide) (by decide) (by decide) (by decide) dX1_init_70 (fun b8 e8 H hK hP hD hS => ?_)
  have hP : va_P (dC, dI) vwCl [(g0, .inr (1, [.int 0, .ref b1, .ref b2, .ref b3, .ref b4, .ref b5, .ref b6, .ref b7, .null, .int 0, .int 0, .int 0])), (b1, .inl (e1, 301, .inl (fun _ => 0))), (b2, .inl (e2, 301, .inl (fun _ => 0))), (b3, .inl (e3, 301, .inl (fun _ => 0))), (b4, .inl (e4, 12040, .inl (fun _ => 0))), (b5, .inl (e5, 12040, .inr (.inl (fun _ => 0)))), (b6, .inl (e6, 301, .inl (fun _ => 0))), (b7, .inl (e7, 16, .inl (fun _ => 0))), (b8, .inl (e8, 301, .inl (fun _ => 0)))] H := hP
  have hD : va_D A [(g0, .inr (1, [.int 0, .ref b1, .ref b2, .ref b3, .ref b4, .ref b5, .ref b6, .ref b7, .null, .int 0, .int 0, .int 0])), (b1, .inl (e1, 301, .inl (fun _ => 0))), (b2, .inl (e2, 301, .inl (fun _ => 0))), (b3, .inl (e3, 301, .inl (fun _ => 0))), (b4, .inl (e4, 12040, .inl (fun _ => 0))), (b5, .inl (e5, 12040, .inr (.inl (fun _ => 0)))), (b6, .inl (e6, 301, .inl (fun _ => 0))), (b7, .inl (e7, 16, .inl (fun _ => 0))), (b8, .inl (e8, 301, .inl (fun _ => 0)))] := hD
  have hK : va_K (dC, dI) vwCl [(e1, .int), (e2, .int), (e3, .int), (e4, .int), (e5, .long), (e6, .boolean), (e7, .int), (e8, .int)] s := hK
  refine va_putF (D := (dC, dI)) (ci := 1) (v := .ref b8) (ty := .array .int) (C := RX1) (T := TX1) (N := 12) hx hb hts inX1 tyX1 tyX1_ok nmX1 hown hK hP hD hS 0 rfl rfl 8 (by decide) (hts _ bw_fl_X1_33) (fun _ h9 => h9) rfl hin rfl (by decide +kernel) rfl rfl (Nat.le_of_ble_eq_true rfl) dX1_init_72 (fun H locs hP hD hS => ?_)
  have hP : va_P (dC, dI) vwCl [(g0, .inr (1, [.int 0, .ref b1, .ref b2, .ref b3, .ref b4, .ref b5, .ref b6, .ref b7, .ref b8, .int 0, .int 0, .int 0])), (b1, .inl (e1, 301, .inl (fun _ => 0))), (b2, .inl (e2, 301, .inl (fun _ => 0))), (b3, .inl (e3, 301, .inl (fun _ => 0))), (b4, .inl (e4, 12040, .inl (fun _ => 0))), (b5, .inl (e5, 12040, .inr (.inl (fun _ => 0)))), (b6, .inl (e6, 301, .inl (fun _ => 0))), (b7, .inl (e7, 16, .inl (fun _ => 0))), (b8, .inl (e8, 301, .inl (fun _ => 0)))] H := hP
  have hD : va_D A [(g0, .inr (1, [.int 0, .ref b1, .ref b2, .ref b3, .ref b4, .ref b5, .ref b6, .ref b7, .ref b8, .int 0, .int 0, .int 0])), (b1, .inl (e1, 301, .inl (fun _ => 0))), (b2, .inl (e2, 301, .inl (fun _ => 0))), (b3, .inl (e3, 301, .inl (fun _ => 0))), (b4, .inl (e4, 12040, .inl (fun _ => 0))), (b5, .inl (e5, 12040, .inr (.inl (fun _ => 0)))), (b6, .inl (e6, 301, .inl (fun _ => 0))), (b7, .inl (e7, 16, .inl (fun _ => 0))), (b8, .inl (e8, 301, .inl (fun _ => 0)))] := hD
  subst hQ9
  refine W.widen (k := 8) (n := 25601) (by decide) (by decide) ?_
  exact W.vret hx hb hr (fun t ht hWm => ⟨⟨(b1, b2, b3, b4, b5, b6, b7, b8, e1, e2, e3, e4, e5, e6, e7, e8), rfl, trivial, by rw [ht]; exact hP, va_K.moved hWm.alike hK, hD⟩, hS.F ht⟩) hS.2.2 dX1_init_75
