set_option maxHeartbeats 8000000 in
set_option maxRecDepth 100000 in
theorem whole_start {p : Program} {e : Env} {s : State} {m : MethodId} {below : List Frame} {meth : Method} {c : Code} (l : Launch) (hl9 : l.stackTraces = false) {b L : Nat} {xs : Nat → Int32} (hL : L ≤ 2560) (C0 : lw_At p s m meth c b L xs) : W p l e room_1 s m #[Value.ref b] below meth c s.heap [] 0 0 (lw_Z below #[Value.ref b] s) (entryFrame m ([Value.ref b] : List Value).toArray 8) := by
  obtain ⟨hx, hb, hr, hml, hown, hts0, hX, hbl, hlocks, hgv⟩ := C0
  have hb : c.code = cL_law := hb
  have hown : s.vm.findClass RL = some m.cls := hown
  have hts : ∀ w ∈ wb, w.before #[Value.ref b] s = true := fun w h => hts0 w (wb_in h)
  have hZ := lz_Z hts0 hgv
  have hG := lz_G hgv
  obtain ⟨dC, dI, hK⟩ := lz_K hts
  have hA : ∀ q : Nat, s.heap.size ≤ q → lz_A s q := fun q h => h
  have hP : va_P (dC, dI) vwCl [] s.heap := fun k q hq => absurd hq (by simp)
  have hD : va_D (lz_A s) [] := ⟨fun i j p q hi => absurd hi (by simp), fun k q hq => absurd hq (by simp)⟩
  have hS : va_S (lz_A s) s.heap s.heap [] := ⟨Nat.le_refl _, fun q _ _ => rfl, fun l h => nomatch h⟩
  have hl := lv_entry ([.ref b]) (n := 8) (Nat.le_of_ble_eq_true rfl)
  rw [lg_entry_eq m [Value.ref b] 8]
  generalize (lg_sl ([.ref b]) ++ List.replicate (8 - (lg_sl ([.ref b])).length) Slot.unset).toArray = ls at hl ⊢
  have hl : lv_has ls 8 [(0, .ref b)] := hl
  generalize hQ0 : lw_Z below #[Value.ref b] s = Q0
  refine va_new (ci := 0) (fs := [.null, .null, .int 0, .int 0, .int 0, .null, .int 0, .null]) hx hb hts inX0 tyX0 tyX0_ok hown (hts _ bw_cl_L_8) (hts _ bw_ia_HeapPress) (hts _ bw_in_HeapPress) hK hP hD hS hA rfl (by decide +kernel) (by decide) (by decide) dL_law_0 (fun h0 H hP hD hS => ?_)
  have hP : va_P (dC, dI) vwCl [(h0, .inr (0, [.null, .null, .int 0, .int 0, .int 0, .null, .int 0, .null]))] H := hP
  have hD : va_D (lz_A s) [(h0, .inr (0, [.null, .null, .int 0, .int 0, .int 0, .null, .int 0, .null]))] := hD
  refine lv_dup hx hb dL_law_3 rfl ?_
  have hPc := hP.sub (ws' := [(h0, .inr (0, [.null, .null, .int 0, .int 0, .int 0, .null, .int 0, .null]))]) [0] rfl
  have hDc := hD.sub (ws' := [(h0, .inr (0, [.null, .null, .int 0, .int 0, .int 0, .null, .int 0, .null]))]) [0] (by decide) rfl
  have hKc := hK.sub (tys' := []) [] rfl
  have hFc := va_free (wc := [(h0, .inr (0, [.null, .null, .int 0, .int 0, .int 0, .null, .int 0, .null]))]) hD hS hA [0] rfl
  refine va_callv (va_runI (As := []) (b := h0) (rest := [.ref h0]) ⟨hx, hb, hml, hown, hts⟩ (c_X0_init l dC dI h0 _) (cwI 0 hts gw_L_49 rfl rfl rfl (hts _ bw_in_HeapPress) (hts _ bw_ml_L_49) (hts _ bw_im_X0_init) rfl ⟨by decide, by decide, by decide +kernel⟩ ⟨Nat.le_of_ble_eq_true rfl, Nat.le_of_ble_eq_true rfl⟩) ⟨hw_blind, hw_pay hPc hKc hDc⟩ rfl rfl hl.1 rfl (lv_room (Nat.le_of_ble_eq_true rfl)) dL_law_4 ⟨by decide, by decide⟩) hS (fun q _ h => hFc q h) hFc (fun u t H1 locs ht hvm hw hB hz1 hk1 hS => ?_)
  obtain ⟨hP1, hK1, hD1⟩ := hB
  rw [ht] at hP1
  obtain ⟨hP, hD⟩ := va_join (wr := []) hP hD [0] [] rfl rfl (by decide) (by decide) hk1 hFc hP1 hD1
  clear hk1 hFc hP1 hD1 hPc hDc hz1
  generalize H1 = H at hP hS ⊢
  obtain ⟨a1, a2, a3, a4, c1, c2, c3, c4, rg0⟩ := u
  have hrg : ∀ r, r < 16 → rg0 r = -1 := hw
  have hKX : va_K (dC, dI) vwCl [(c1, .long), (c2, .int), (c3, .int), (c4, .int)] s := va_K.moved hvm.symm hK1
  have hP : va_P (dC, dI) vwCl [(h0, .inr (0, [.ref a1, .ref a2, .int 0, .int 0, .int 0, .ref a3, .int 0, .ref a4])), (a1, .inl (c1, 300, .inr (.inl (fun _ => 0)))), (a2, .inl (c2, 16, .inl rg0)), (a3, .inl (c3, 300, .inl (fun _ => 0))), (a4, .inl (c4, 300, .inl (fun _ => 0)))] H := hP
  have hD : va_D (lz_A s) [(h0, .inr (0, [.ref a1, .ref a2, .int 0, .int 0, .int 0, .ref a3, .int 0, .ref a4])), (a1, .inl (c1, 300, .inr (.inl (fun _ => 0)))), (a2, .inl (c2, 16, .inl rg0)), (a3, .inl (c3, 300, .inl (fun _ => 0))), (a4, .inl (c4, 300, .inl (fun _ => 0)))] := hD
  clear hK1 ht hvm
  refine lv_astore_n hx hb dL_law_7 rfl hl (by decide) rfl (fun ls hl => ?_)
  have hl : lv_has ls 8 [(1, .ref h0), (0, .ref b)] := hl
  refine va_new (ci := 1) (fs := [.int 0, .null, .null, .null, .null, .null, .null, .null, .null, .int 0, .int 0, .int 0]) hx hb hts inX1 tyX1 tyX1_ok hown (hts _ bw_cl_L_50) (hts _ bw_ia_HeapPressModel) (hts _ bw_in_HeapPressModel) hK hP hD hS hA rfl (by decide +kernel) (by decide) (by decide) dL_law_8 (fun g0 H hP hD hS => ?_)
  have hP : va_P (dC, dI) vwCl [(h0, .inr (0, [.ref a1, .ref a2, .int 0, .int 0, .int 0, .ref a3, .int 0, .ref a4])), (a1, .inl (c1, 300, .inr (.inl (fun _ => 0)))), (a2, .inl (c2, 16, .inl rg0)), (a3, .inl (c3, 300, .inl (fun _ => 0))), (a4, .inl (c4, 300, .inl (fun _ => 0))), (g0, .inr (1, [.int 0, .null, .null, .null, .null, .null, .null, .null, .null, .int 0, .int 0, .int 0]))] H := hP
  have hD : va_D (lz_A s) [(h0, .inr (0, [.ref a1, .ref a2, .int 0, .int 0, .int 0, .ref a3, .int 0, .ref a4])), (a1, .inl (c1, 300, .inr (.inl (fun _ => 0)))), (a2, .inl (c2, 16, .inl rg0)), (a3, .inl (c3, 300, .inl (fun _ => 0))), (a4, .inl (c4, 300, .inl (fun _ => 0))), (g0, .inr (1, [.int 0, .null, .null, .null, .null, .null, .null, .null, .null, .int 0, .int 0, .int 0]))] := hD
  refine lv_dup hx hb dL_law_11 rfl ?_
  have hPc := hP.sub (ws' := [(g0, .inr (1, [.int 0, .null, .null, .null, .null, .null, .null, .null, .null, .int 0, .int 0, .int 0]))]) [5] rfl
  have hDc := hD.sub (ws' := [(g0, .inr (1, [.int 0, .null, .null, .null, .null, .null, .null, .null, .null, .int 0, .int 0, .int 0]))]) [5] (by decide) rfl
  have hKc := hK.sub (tys' := []) [] rfl
  have hFc := va_free (wc := [(g0, .inr (1, [.int 0, .null, .null, .null, .null, .null, .null, .null, .null, .int 0, .int 0, .int 0]))]) hD hS hA [5] rfl
  refine va_callv (va_runI (As := []) (b := g0) (rest := [.ref g0]) ⟨hx, hb, hml, hown, hts⟩ (c_X1_init l dC dI g0 _) (cwI 0 hts gw_L_52 rfl rfl rfl (hts _ bw_in_HeapPressModel) (hts _ bw_ml_L_52) (hts _ bw_im_X1_init) rfl ⟨by decide, by decide, by decide +kernel⟩ ⟨Nat.le_of_ble_eq_true rfl, Nat.le_of_ble_eq_true rfl⟩) ⟨hw_blind, hw_pay hPc hKc hDc⟩ rfl rfl hl.1 rfl (lv_room (Nat.le_of_ble_eq_true rfl)) dL_law_12 ⟨by decide, by decide⟩) hS (fun q _ h => hFc q h) hFc (fun u t H1 locs ht hvm hw hB hz1 hk1 hS => ?_)
  obtain ⟨hP1, hK1, hD1⟩ := hB
  rw [ht] at hP1
  obtain ⟨hP, hD⟩ := va_join (wr := [(h0, .inr (0, [.ref a1, .ref a2, .int 0, .int 0, .int 0, .ref a3, .int 0, .ref a4])), (a1, .inl (c1, 300, .inr (.inl (fun _ => 0)))), (a2, .inl (c2, 16, .inl rg0)), (a3, .inl (c3, 300, .inl (fun _ => 0))), (a4, .inl (c4, 300, .inl (fun _ => 0)))]) hP hD [5] [0, 1, 2, 3, 4] rfl rfl (by decide) (by decide) hk1 hFc hP1 hD1
  clear hk1 hFc hP1 hD1 hPc hDc hz1
  generalize H1 = H at hP hS ⊢
  obtain ⟨b1, b2, b3, b4, b5, b6, b7, b8, e1, e2, e3, e4, e5, e6, e7, e8⟩ := u
  have hKM : va_K (dC, dI) vwCl [(e1, .int), (e2, .int), (e3, .int), (e4, .int), (e5, .long), (e6, .boolean), (e7, .int), (e8, .int)] s := va_K.moved hvm.symm hK1
  have hK : va_K (dC, dI) vwCl [(c1, .long), (c2, .int), (c3, .int), (c4, .int), (e1, .int), (e2, .int), (e3, .int), (e4, .int), (e5, .long), (e6, .boolean), (e7, .int), (e8, .int)] s := hKX.app hKM
  have hP : va_P (dC, dI) vwCl [(h0, .inr (0, [.ref a1, .ref a2, .int 0, .int 0, .int 0, .ref a3, .int 0, .ref a4])), (a1, .inl (c1, 300, .inr (.inl (fun _ => 0)))), (a2, .inl (c2, 16, .inl rg0)), (a3, .inl (c3, 300, .inl (fun _ => 0))), (a4, .inl (c4, 300, .inl (fun _ => 0))), (g0, .inr (1, [.int 0, .ref b1, .ref b2, .ref b3, .ref b4, .ref b5, .ref b6, .ref b7, .ref b8, .int 0, .int 0, .int 0])), (b1, .inl (e1, 301, .inl (fun _ => 0))), (b2, .inl (e2, 301, .inl (fun _ => 0))), (b3, .inl (e3, 301, .inl (fun _ => 0))), (b4, .inl (e4, 12040, .inl (fun _ => 0))), (b5, .inl (e5, 12040, .inr (.inl (fun _ => 0)))), (b6, .inl (e6, 301, .inl (fun _ => 0))), (b7, .inl (e7, 16, .inl (fun _ => 0))), (b8, .inl (e8, 301, .inl (fun _ => 0)))] H := hP
  have hD : va_D (lz_A s) [(h0, .inr (0, [.ref a1, .ref a2, .int 0, .int 0, .int 0, .ref a3, .int 0, .ref a4])), (a1, .inl (c1, 300, .inr (.inl (fun _ => 0)))), (a2, .inl (c2, 16, .inl rg0)), (a3, .inl (c3, 300, .inl (fun _ => 0))), (a4, .inl (c4, 300, .inl (fun _ => 0))), (g0, .inr (1, [.int 0, .ref b1, .ref b2, .ref b3, .ref b4, .ref b5, .ref b6, .ref b7, .ref b8, .int 0, .int 0, .int 0])), (b1, .inl (e1, 301, .inl (fun _ => 0))), (b2, .inl (e2, 301, .inl (fun _ => 0))), (b3, .inl (e3, 301, .inl (fun _ => 0))), (b4, .inl (e4, 12040, .inl (fun _ => 0))), (b5, .inl (e5, 12040, .inr (.inl (fun _ => 0)))), (b6, .inl (e6, 301, .inl (fun _ => 0))), (b7, .inl (e7, 16, .inl (fun _ => 0))), (b8, .inl (e8, 301, .inl (fun _ => 0)))] := hD
  clear hK1 ht hvm hw
  refine lv_astore_n hx hb dL_law_15 rfl hl (by decide) rfl (fun ls hl => ?_)
  have hl : lv_has ls 8 [(2, .ref g0), (1, .ref h0), (0, .ref b)] := hl
  refine lv_iconst (v := 1) hx hb dL_law_16 (by decide) ?_
  refine va_newa (atype := .long) (ty := .long) (a0 := (1, .inr (.inl (fun _ => 0)))) (N' := 1) hx hb (hts _ bw_ac_long) rfl hK hP hD hS hA (fun _ => rfl) (by decide) (by decide) (by decide) (by decide) (by decide) dL_law_17 (fun oa oc H hK hP hD hS => ?_)
  have hP := hP.sub (ws' := [(g0, .inr (1, [.int 0, .ref b1, .ref b2, .ref b3, .ref b4, .ref b5, .ref b6, .ref b7, .ref b8, .int 0, .int 0, .int 0])), (b1, .inl (e1, 301, .inl (fun _ => 0))), (b2, .inl (e2, 301, .inl (fun _ => 0))), (b3, .inl (e3, 301, .inl (fun _ => 0))), (b4, .inl (e4, 12040, .inl (fun _ => 0))), (b5, .inl (e5, 12040, .inr (.inl (fun _ => 0)))), (b6, .inl (e6, 301, .inl (fun _ => 0))), (b7, .inl (e7, 16, .inl (fun _ => 0))), (b8, .inl (e8, 301, .inl (fun _ => 0))), (oa, .inl (oc, 1, .inr (.inl (fun _ => 0)))), (h0, .inr (0, [.ref a1, .ref a2, .int 0, .int 0, .int 0, .ref a3, .int 0, .ref a4])), (a1, .inl (c1, 300, .inr (.inl (fun _ => 0)))), (a2, .inl (c2, 16, .inl rg0)), (a3, .inl (c3, 300, .inl (fun _ => 0))), (a4, .inl (c4, 300, .inl (fun _ => 0)))]) [5, 6, 7, 8, 9, 10, 11, 12, 13, 14, 0, 1, 2, 3, 4] rfl
  have hD := hD.sub (ws' := [(g0, .inr (1, [.int 0, .ref b1, .ref b2, .ref b3, .ref b4, .ref b5, .ref b6, .ref b7, .ref b8, .int 0, .int 0, .int 0])), (b1, .inl (e1, 301, .inl (fun _ => 0))), (b2, .inl (e2, 301, .inl (fun _ => 0))), (b3, .inl (e3, 301, .inl (fun _ => 0))), (b4, .inl (e4, 12040, .inl (fun _ => 0))), (b5, .inl (e5, 12040, .inr (.inl (fun _ => 0)))), (b6, .inl (e6, 301, .inl (fun _ => 0))), (b7, .inl (e7, 16, .inl (fun _ => 0))), (b8, .inl (e8, 301, .inl (fun _ => 0))), (oa, .inl (oc, 1, .inr (.inl (fun _ => 0)))), (h0, .inr (0, [.ref a1, .ref a2, .int 0, .int 0, .int 0, .ref a3, .int 0, .ref a4])), (a1, .inl (c1, 300, .inr (.inl (fun _ => 0)))), (a2, .inl (c2, 16, .inl rg0)), (a3, .inl (c3, 300, .inl (fun _ => 0))), (a4, .inl (c4, 300, .inl (fun _ => 0)))]) [5, 6, 7, 8, 9, 10, 11, 12, 13, 14, 0, 1, 2, 3, 4] (by decide) rfl
  have hK := hK.sub (tys' := [(e1, .int), (e2, .int), (e3, .int), (e4, .int), (e5, .long), (e6, .boolean), (e7, .int), (e8, .int), (oc, .long), (c1, .long), (c2, .int), (c3, .int), (c4, .int)]) [4, 5, 6, 7, 8, 9, 10, 11, 12, 0, 1, 2, 3] rfl
  refine lv_astore_n hx hb dL_law_19 rfl hl (by decide) rfl (fun ls hl => ?_)
  have hl : lv_has ls 8 [(3, .ref oa), (2, .ref g0), (1, .ref h0), (0, .ref b)] := hl
  refine lv_iconst (v := 0) hx hb dL_law_20 (by decide) ?_
  refine hw_topi (y := nI (5 * 0)) (by decide) ?_
  refine lv_istore hx hb dL_law_21 hl (by decide) rfl (fun ls hl => ?_)
  have hl : lv_has ls 8 [(4, .int (nI (5 * 0))), (3, .ref oa), (2, .ref g0), (1, .ref h0), (0, .ref b)] := hl
  refine W.widen (k := 15 + 0) (n := 26538 + 6 * 0) (by decide) (by decide) ?_
  exact lc_loop dC dI h0 a1 a2 a3 a4 c1 c2 c3 c4 g0 b1 b2 b3 b4 b5 b6 b7 b8 e1 e2 e3 e4 e5 e6 e7 e8 oa oc hx hb hml hown hts hX hbl hl9 hZ hG hK hL hQ0.symm hr hlocks 514 0 (by decide) (Nat.zero_le _) (fun _ => 0) rg0 0 0 0 (fun _ => 0) 0 (fun _ => 0) 0 (fun _ => 0) (fun _ => 0) (fun _ => 0) (fun _ => 0) (fun _ => 0) (fun _ => 0) (fun _ => 0) (fun _ => 0) 0 0 0 (fun _ => 0) hp_0 H locs ls ⟨hp_0_W, hp_0_C hrg, hp_0_Q (fun _ => rfl) (fun _ => rfl)⟩ hP hD hS (lv_sub hl [0, 4, 3, 2, 1] rfl)

