set_option maxHeartbeats 4000000 in
set_option maxRecDepth 100000 in
/-- Arrays.fill of ints -/
theorem c_J7_fill (l : Launch) (dC : Nat → ClassId) (dI : Nat → Nat → Nat) (a : Nat) (ca : ClassId) (n : Nat) (hn : n < 2 ^ 31) (f : Nat → Int32) (sz : Nat) (v : Int32) : Met l yJ7_fill wsJ7_fill ({ frames := 0, cells := 0, slots := 0, locals := 0 }) (va_Pc [.ref a, .int v] (hw_pre (dC, dI) vwCl [(ca, .int)] [(a, .inl (ca, n, .inl f))] sz)) (va_Qv (fun u : Nat → Int32 => ∀ j, j < n → u j = v) (fun u t => hw_B (dC, dI) vwCl [(ca, .int)] (va_A [(a, .inl (ca, n, .inl f))] sz) ((fun u : Nat → Int32 => [(a, .inl (ca, n, .inl u))]) u) t) (va_A [(a, .inl (ca, n, .inl f))] sz)) 0 0 (va_A [(a, .inl (ca, n, .inl f))] sz) := by
  refine Met.ofW (cc := cJ7_fill) (maxL := 4) (ret := none) (by decide) rfl ?_
  intro p e s m args below meth c s₁ B hml hv
  obtain ⟨hargs, hsz, hP, hK, hD0⟩ := hv
  have hx := B.exec
  have hb := B.bytes
  have hr := B.returns
  have hts : ∀ w ∈ wb, w.before _ s = true := fun w h => atoms_spec (ws := wsJ7_fill) B.pre w (List.mem_cons_of_mem _ h)
  have hown : s.vm.findClass RJ7 = some m.cls := findClass_of_methodNamed B.named
  have hlocks := B.notSynchronized
  subst hsz
  have hD := hD0.self (sz := s.heap.size)
  generalize hAe : va_A [(a, .inl (ca, n, .inl f))] s.heap.size = A at hD ⊢
  have hA : ∀ q : Nat, s.heap.size ≤ q → A q := fun q h => by rw [← hAe]; exact Or.inr h
  have hS : va_S A s.heap s.heap [] := va_S.rf
  generalize hQ9 : MQ below (va_Qv (fun u : Nat → Int32 => ∀ j, j < n → u j = v) (fun u t => hw_B (dC, dI) vwCl [(ca, .int)] A ((fun u : Nat → Int32 => [(a, .inl (ca, n, .inl u))]) u) t) A) args s 0 0 A = Q9
  have hl := lv_entry ([.ref a, .int v]) (n := 4) (Nat.le_of_ble_eq_true rfl)
  rw [show entryFrame m args 4 = _ from (congrArg (fun z => entryFrame m z 4) hargs).trans (lg_entry_eq m [.ref a, .int v] 4)]
  generalize (lg_sl ([.ref a, .int v]) ++ List.replicate (4 - (lg_sl ([.ref a, .int v])).length) Slot.unset).toArray = ls at hl ⊢
  have hl : lv_has ls 4 [(0, .ref a), (1, .int v)] := hl
  obtain ⟨H, hH⟩ : ∃ H, H = s.heap := ⟨_, rfl⟩
  rw [← hH] at hP
  have hS : va_S A s.heap H [] := by rw [hH]; exact hS
  rw [← hH]
  generalize ([] : List Loc) = locs at hS ⊢
  refine lv_iconst (v := 0) hx hb dJ7_fill_0 (by decide) ?_
  refine hw_topi (y := nI 0) (nI_0.symm) ?_
  refine lv_istore_n hx hb dJ7_fill_1 rfl hl (by decide) rfl (fun ls hl => ?_)
  have hl : lv_has ls 4 [(2, .int (nI 0)), (0, .ref a), (1, .int v)] := hl
  refine lv_aload_n hx hb dJ7_fill_2 rfl (lv_at hl 1 rfl) ?_
  refine va_alen (v := nI n) hx hb hK hP 0 0 rfl rfl rfl dJ7_fill_3 ?_
  refine lv_istore_n hx hb dJ7_fill_4 rfl hl (by decide) rfl (fun ls hl => ?_)
  have hl : lv_has ls 4 [(3, .int (nI n)), (2, .int (nI 0)), (0, .ref a), (1, .int v)] := hl
  have loop : ∀ (n9 : Nat) (k : Nat) (f : Nat → Int32) (H : Heap) (locs : List Loc) (ls : Array Slot), n - k < n9 → (k ≤ n ∧ ∀ j, j < k → f j = v) → va_P (dC, dI) vwCl [(a, .inl (ca, n, .inl f))] H → va_D A [(a, .inl (ca, n, .inl f))] → va_S A s.heap H locs → lv_has ls 4 [(3, .int (nI n)), (2, .int (nI k)), (0, .ref a), (1, .int v)] → W p l e (headSpec wsJ7_fill ({ frames := 0, cells := 0, slots := 0, locals := 0 })).room s m args below meth c H locs 0 0 Q9 (F0 m 5 ls []) := by
    intro n9
    induction n9 with
    | zero => intro k f H locs ls hm; exact absurd hm (Nat.not_lt_zero _)
    | succ n9 ih =>
      intro k f H locs ls hm hI hP hD hS hl
      refine lv_iload_n hx hb dJ7_fill_5 rfl (lv_at hl 1 rfl) ?_
      refine lv_iload_n hx hb dJ7_fill_6 rfl (lv_at hl 0 rfl) ?_
      refine lv_icmp_ge hx hb dJ7_fill_7 (tgt := 20) (by decide) (fun hc => ?_) (fun hc => ?_)
      · have hk : k = n := by
          have h1 := (nI_leI hn (Nat.lt_of_le_of_lt hI.1 hn)).mp hc
          omega
        subst hk
        subst hQ9
        exact W.vret hx hb hr (fun t ht hWm => ⟨⟨f, rfl, hI.2, by rw [ht]; exact hP, va_K.moved hWm.alike hK, hD⟩, hS.F ht⟩) hS.2.2 dJ7_fill_20
      · have hk : k < n := Nat.lt_of_not_le (fun h9 => hc ((nI_leI hn (Nat.lt_of_le_of_lt hI.1 hn)).mpr h9))
        refine lv_aload_n hx hb dJ7_fill_10 rfl (lv_at hl 2 rfl) ?_
        refine lv_iload_n hx hb dJ7_fill_11 rfl (lv_at hl 1 rfl) ?_
        refine lv_iload_n hx hb dJ7_fill_12 rfl (lv_at hl 3 rfl) ?_
        refine hw_iast (j := k) hx hb hK hP hD hS 0 0 rfl rfl (rfl) (hk) (hn) dJ7_fill_13 (fun H locs hP hD hS => ?_)
        have hP : va_P (dC, dI) vwCl [(a, .inl (ca, n, .inl (upd f k v)))] H := hP
        have hD : va_D A [(a, .inl (ca, n, .inl (upd f k v)))] := hD
        refine lv_iinc (k := 1) (v := nI (k + 1)) hx hb dJ7_fill_14 hl rfl (nI_1 k) (by decide) rfl (fun ls hl => ?_)
        have hl : lv_has ls 4 [(2, .int (nI (k + 1))), (3, .int (nI n)), (0, .ref a), (1, .int v)] := hl
        refine lv_goto hx hb dJ7_fill_17 (tgt := 5) (by decide) ?_
        exact ih (k + 1) (upd f k v) H locs ls (by omega) (⟨hk, fun j hj => by
            by_cases e9 : j = k
            · subst e9; exact pk_us
            · rw [pk_un e9]; exact hI.2 j (by omega)⟩) hP hD hS (lv_sub hl [1, 0, 2, 3] rfl)
  exact loop _ 0 f H locs ls (Nat.lt_succ_self _) (⟨Nat.zero_le _, fun j hj => absurd hj (Nat.not_lt_zero _)⟩) hP hD hS (lv_sub hl [0, 1, 2, 3] rfl)

set_option maxHeartbeats 4000000 in
set_option maxRecDepth 100000 in
/-- noteReached(place) -/
theorem c_X0_noteReached (l : Launch) (dC : Nat → ClassId) (dI : Nat → Nat → Nat) (h0 a1 a2 a3 a4 : Nat) (c1 c2 c3 c4 : ClassId) (ce : Nat → Int64) (rg : Nat → Int32) (tk ob co : Int32) (re : Nat → Int32) (rc : Int32) (np : Nat → Int32) (sz : Nat) (M : hp_S) (hW : hp_W M) (R : List Nat) (hI : hp_I M R re rc np) (o : Nat) (ho : o = 0 ∨ o ∈ hp_L M) : Met l yX0_noteReached wsX0_noteReached ({ frames := 0, cells := 0, slots := 0, locals := 0 }) (va_Pc [.ref h0, .int (hp_e M o)] (hw_pre (dC, dI) vwCl [(c1, .long), (c2, .int), (c3, .int), (c4, .int)] [(h0, .inr (0, [.ref a1, .ref a2, .int tk, .int ob, .int co, .ref a3, .int rc, .ref a4])), (a1, .inl (c1, 300, .inr (.inl ce))), (a2, .inl (c2, 16, .inl rg)), (a3, .inl (c3, 300, .inl re)), (a4, .inl (c4, 300, .inl np))] sz)) (va_Qv (fun u : (Nat → Int32) × Int32 × (Nat → Int32) => hp_I M (hp_nt R o) u.1 u.2.1 u.2.2) (fun u t => hw_B (dC, dI) vwCl [(c1, .long), (c2, .int), (c3, .int), (c4, .int)] (va_A [(h0, .inr (0, [.ref a1, .ref a2, .int tk, .int ob, .int co, .ref a3, .int rc, .ref a4])), (a1, .inl (c1, 300, .inr (.inl ce))), (a2, .inl (c2, 16, .inl rg)), (a3, .inl (c3, 300, .inl re)), (a4, .inl (c4, 300, .inl np))] sz) ((fun u : (Nat → Int32) × Int32 × (Nat → Int32) => [(h0, .inr (0, [.ref a1, .ref a2, .int tk, .int ob, .int co, .ref a3, .int u.2.1, .ref a4])), (a1, .inl (c1, 300, .inr (.inl ce))), (a2, .inl (c2, 16, .inl rg)), (a3, .inl (c3, 300, .inl u.1)), (a4, .inl (c4, 300, .inl u.2.2))]) u) t) (va_A [(h0, .inr (0, [.ref a1, .ref a2, .int tk, .int ob, .int co, .ref a3, .int rc, .ref a4])), (a1, .inl (c1, 300, .inr (.inl ce))), (a2, .inl (c2, 16, .inl rg)), (a3, .inl (c3, 300, .inl re)), (a4, .inl (c4, 300, .inl np))] sz)) 0 0 (va_A [(h0, .inr (0, [.ref a1, .ref a2, .int tk, .int ob, .int co, .ref a3, .int rc, .ref a4])), (a1, .inl (c1, 300, .inr (.inl ce))), (a2, .inl (c2, 16, .inl rg)), (a3, .inl (c3, 300, .inl re)), (a4, .inl (c4, 300, .inl np))] sz) := by
  refine Met.ofW (cc := cX0_noteReached) (maxL := 2) (ret := none) (by decide) rfl ?_
  intro p e s m args below meth c s₁ B hml hv
  obtain ⟨hargs, hsz, hP, hK, hD0⟩ := hv
  have hx := B.exec
  have hb := B.bytes
  have hr := B.returns
  have hts : ∀ w ∈ wb, w.before _ s = true := fun w h => atoms_spec (ws := wsX0_noteReached) B.pre w (List.mem_cons_of_mem _ h)
  have hown : s.vm.findClass RX0 = some m.cls := findClass_of_methodNamed B.named
  have hlocks := B.notSynchronized
  subst hsz
  have hD := hD0.self (sz := s.heap.size)
  generalize hAe : va_A [(h0, .inr (0, [.ref a1, .ref a2, .int tk, .int ob, .int co, .ref a3, .int rc, .ref a4])), (a1, .inl (c1, 300, .inr (.inl ce))), (a2, .inl (c2, 16, .inl rg)), (a3, .inl (c3, 300, .inl re)), (a4, .inl (c4, 300, .inl np))] s.heap.size = A at hD ⊢
  have hA : ∀ q : Nat, s.heap.size ≤ q → A q := fun q h => by rw [← hAe]; exact Or.inr h
  have hS : va_S A s.heap s.heap [] := va_S.rf
  generalize hQ9 : MQ below (va_Qv (fun u : (Nat → Int32) × Int32 × (Nat → Int32) => hp_I M (hp_nt R o) u.1 u.2.1 u.2.2) (fun u t => hw_B (dC, dI) vwCl [(c1, .long), (c2, .int), (c3, .int), (c4, .int)] A ((fun u : (Nat → Int32) × Int32 × (Nat → Int32) => [(h0, .inr (0, [.ref a1, .ref a2, .int tk, .int ob, .int co, .ref a3, .int u.2.1, .ref a4])), (a1, .inl (c1, 300, .inr (.inl ce))), (a2, .inl (c2, 16, .inl rg)), (a3, .inl (c3, 300, .inl u.1)), (a4, .inl (c4, 300, .inl u.2.2))]) u) t) A) args s 0 0 A = Q9
  have hl := lv_entry ([.ref h0, .int (hp_e M o)]) (n := 2) (Nat.le_of_ble_eq_true rfl)
  rw [show entryFrame m args 2 = _ from (congrArg (fun z => entryFrame m z 2) hargs).trans (lg_entry_eq m [.ref h0, .int (hp_e M o)] 2)]
  generalize (lg_sl ([.ref h0, .int (hp_e M o)]) ++ List.replicate (2 - (lg_sl ([.ref h0, .int (hp_e M o)])).length) Slot.unset).toArray = ls at hl ⊢
  have hl : lv_has ls 2 [(0, .ref h0), (1, .int (hp_e M o))] := hl
  obtain ⟨H, hH⟩ : ∃ H, H = s.heap := ⟨_, rfl⟩
  rw [← hH] at hP
  have hS : va_S A s.heap H [] := by rw [hH]; exact hS
  rw [← hH]
  generalize ([] : List Loc) = locs at hS ⊢
  refine lv_iload_n hx hb dX0_noteReached_0 rfl (lv_at hl 1 rfl) ?_
  refine lv_iconst (v := (-1)) hx hb dX0_noteReached_1 (by decide) ?_
  refine lv_icmp_eq hx hb dX0_noteReached_2 (tgt := 42) (by decide) (fun hc => ?_) (fun hc => ?_)
  · have ho0 : o = 0 := Classical.byContradiction fun h9 => hp_neg1 (by have := hp_pl_lt hW (ho.resolve_left h9); omega) ((hp_en h9).symm.trans hc)
    have hR : hp_nt R o = R := if_pos (Or.inl ho0)
    subst hQ9
    exact W.vret hx hb hr (fun t ht hWm => ⟨⟨(re, rc, np), rfl, by rw [hR]; exact hI, by rw [ht]; exact hP, va_K.moved hWm.alike hK, hD⟩, hS.F ht⟩) hS.2.2 dX0_noteReached_42
  · have ho0 : o ≠ 0 := fun h9 => hc (by rw [h9]; exact hp_e0 M)
    have hoL := ho.resolve_left ho0
    have hlt := hp_pl_lt hW hoL
    have he := hp_en (M := M) ho0
    refine lv_aload_n hx hb dX0_noteReached_5 rfl (lv_at hl 0 rfl) ?_
    refine va_get (D := (dC, dI)) (ci := 0) (v := .ref a4) (C := RX0) (T := TX0) (N := 8) hx hb hts inX0 hown hK hP 0 rfl rfl 7 (by decide) (hts _ bw_fl_X0_33) (fun _ h9 => h9) rfl dX0_noteReached_6 ?_
    refine lv_iload_n hx hb dX0_noteReached_9 rfl (lv_at hl 1 rfl) ?_
    refine hw_iald (j := hp_pl M o) hx hb hK hP 4 3 rfl rfl (he) (by omega) (by decide) dX0_noteReached_10 ?_
    refine lv_iconst (v := (-1)) hx hb dX0_noteReached_11 (by decide) ?_
    refine lv_icmp_ne hx hb dX0_noteReached_12 (tgt := 42) (by decide) (fun hc => ?_) (fun hc => ?_)
    · have hin : o ∈ R := Classical.byContradiction fun h9 => hc (by rw [hI.2.2.2.2 o hoL, if_neg h9])
      have hR : hp_nt R o = R := if_pos (Or.inr hin)
      subst hQ9
      exact W.vret hx hb hr (fun t ht hWm => ⟨⟨(re, rc, np), rfl, by rw [hR]; exact hI, by rw [ht]; exact hP, va_K.moved hWm.alike hK, hD⟩, hS.F ht⟩) hS.2.2 dX0_noteReached_42
    · have hin : o ∉ R := fun h9 => hp_neg1 (by omega) ((by rw [hI.2.2.2.2 o hoL, if_pos h9] : np (hp_pl M o) = nI (hp_pl M o)).symm.trans hc)
      have hR : hp_nt R o = R ++ [o] := if_neg (fun h9 => h9.elim ho0 hin)
      have hlen := hp_I_lt hW hI hoL hin
      have hadd := hp_I_add hI hoL hin
      refine lv_aload_n hx hb dX0_noteReached_15 rfl (lv_at hl 0 rfl) ?_
      refine va_get (D := (dC, dI)) (ci := 0) (v := .ref a4) (C := RX0) (T := TX0) (N := 8) hx hb hts inX0 hown hK hP 0 rfl rfl 7 (by decide) (hts _ bw_fl_X0_33) (fun _ h9 => h9) rfl dX0_noteReached_16 ?_
      refine lv_iload_n hx hb dX0_noteReached_19 rfl (lv_at hl 1 rfl) ?_
      refine lv_iload_n hx hb dX0_noteReached_20 rfl (lv_at hl 1 rfl) ?_
      refine hw_iast (j := hp_pl M o) hx hb hK hP hD hS 4 3 rfl rfl (he) (by omega) (by decide) dX0_noteReached_21 (fun H locs hP hD hS => ?_)
      have hP : va_P (dC, dI) vwCl [(h0, .inr (0, [.ref a1, .ref a2, .int tk, .int ob, .int co, .ref a3, .int rc, .ref a4])), (a1, .inl (c1, 300, .inr (.inl ce))), (a2, .inl (c2, 16, .inl rg)), (a3, .inl (c3, 300, .inl re)), (a4, .inl (c4, 300, .inl (upd np (hp_pl M o) (hp_e M o))))] H := hP
      have hD : va_D A [(h0, .inr (0, [.ref a1, .ref a2, .int tk, .int ob, .int co, .ref a3, .int rc, .ref a4])), (a1, .inl (c1, 300, .inr (.inl ce))), (a2, .inl (c2, 16, .inl rg)), (a3, .inl (c3, 300, .inl re)), (a4, .inl (c4, 300, .inl (upd np (hp_pl M o) (hp_e M o))))] := hD
      refine lv_aload_n hx hb dX0_noteReached_22 rfl (lv_at hl 0 rfl) ?_
      refine va_get (D := (dC, dI)) (ci := 0) (v := .ref a3) (C := RX0) (T := TX0) (N := 8) hx hb hts inX0 hown hK hP 0 rfl rfl 5 (by decide) (hts _ bw_fl_X0_27) (fun _ h9 => h9) rfl dX0_noteReached_23 ?_
      refine lv_aload_n hx hb dX0_noteReached_26 rfl (lv_at hl 0 rfl) ?_
      refine va_get (D := (dC, dI)) (ci := 0) (v := .int rc) (C := RX0) (T := TX0) (N := 8) hx hb hts inX0 hown hK hP 0 rfl rfl 6 (by decide) (hts _ bw_fl_X0_30) (fun _ h9 => h9) rfl dX0_noteReached_27 ?_
      refine lv_iload_n hx hb dX0_noteReached_30 rfl (lv_at hl 1 rfl) ?_
      refine hw_iast (j := R.length) hx hb hK hP hD hS 3 2 rfl rfl (hI.1) (hlen) (by decide) dX0_noteReached_31 (fun H locs hP hD hS => ?_)
      have hP : va_P (dC, dI) vwCl [(h0, .inr (0, [.ref a1, .ref a2, .int tk, .int ob, .int co, .ref a3, .int rc, .ref a4])), (a1, .inl (c1, 300, .inr (.inl ce))), (a2, .inl (c2, 16, .inl rg)), (a3, .inl (c3, 300, .inl (upd re R.length (hp_e M o)))), (a4, .inl (c4, 300, .inl (upd np (hp_pl M o) (hp_e M o))))] H := hP
      have hD : va_D A [(h0, .inr (0, [.ref a1, .ref a2, .int tk, .int ob, .int co, .ref a3, .int rc, .ref a4])), (a1, .inl (c1, 300, .inr (.inl ce))), (a2, .inl (c2, 16, .inl rg)), (a3, .inl (c3, 300, .inl (upd re R.length (hp_e M o)))), (a4, .inl (c4, 300, .inl (upd np (hp_pl M o) (hp_e M o))))] := hD
      refine lv_aload_n hx hb dX0_noteReached_32 rfl (lv_at hl 0 rfl) ?_
      refine lv_dup hx hb dX0_noteReached_33 rfl ?_
      refine va_get (D := (dC, dI)) (ci := 0) (v := .int rc) (C := RX0) (T := TX0) (N := 8) hx hb hts inX0 hown hK hP 0 rfl rfl 6 (by decide) (hts _ bw_fl_X0_30) (fun _ h9 => h9) rfl dX0_noteReached_34 ?_
      refine lv_iconst (v := 1) hx hb dX0_noteReached_37 (by decide) ?_
      refine lv_iadd hx hb dX0_noteReached_38 ?_
      refine hw_topi (y := nI (R.length + 1)) (by rw [hI.1]; exact nI_1 _) ?_
      refine va_put (D := (dC, dI)) (ci := 0) (v := .int (nI (R.length + 1))) (ty := .int) (C := RX0) (T := TX0) (N := 8) hx hb hts inX0 tyX0 tyX0_ok nmX0 hown hK hP hD hS 0 rfl rfl 6 (by decide) (hts _ bw_fl_X0_30) (fun _ h9 => h9) rfl (by decide +kernel) rfl rfl (Nat.le_of_ble_eq_true rfl) dX0_noteReached_39 (fun H locs hP hD hS => ?_)
      have hP : va_P (dC, dI) vwCl [(h0, .inr (0, [.ref a1, .ref a2, .int tk, .int ob, .int co, .ref a3, .int (nI (R.length + 1)), .ref a4])), (a1, .inl (c1, 300, .inr (.inl ce))), (a2, .inl (c2, 16, .inl rg)), (a3, .inl (c3, 300, .inl (upd re R.length (hp_e M o)))), (a4, .inl (c4, 300, .inl (upd np (hp_pl M o) (hp_e M o))))] H := hP
      have hD : va_D A [(h0, .inr (0, [.ref a1, .ref a2, .int tk, .int ob, .int co, .ref a3, .int (nI (R.length + 1)), .ref a4])), (a1, .inl (c1, 300, .inr (.inl ce))), (a2, .inl (c2, 16, .inl rg)), (a3, .inl (c3, 300, .inl (upd re R.length (hp_e M o)))), (a4, .inl (c4, 300, .inl (upd np (hp_pl M o) (hp_e M o))))] := hD
      subst hQ9
      exact W.vret hx hb hr (fun t ht hWm => ⟨⟨((upd re R.length (hp_e M o)), (nI (R.length + 1)), (upd np (hp_pl M o) (hp_e M o))), rfl, by rw [hR, he]; exact hadd, by rw [ht]; exact hP, va_K.moved hWm.alike hK, hD⟩, hS.F ht⟩) hS.2.2 dX0_noteReached_42
