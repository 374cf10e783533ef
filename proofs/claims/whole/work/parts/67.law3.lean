set_option maxHeartbeats 4000000 in
set_option maxRecDepth 100000 in
theorem lc_make0 {p : Program} {l : Launch} {e : Env} {s : State} {m : MethodId} {below : List Frame} {meth : Method} {c : Code} {b L : Nat} {xs : Nat → Int32} {Q : State → Prop} (dC : Nat → ClassId) (dI : Nat → Nat → Nat) (h0 a1 a2 a3 a4 : Nat) (c1 c2 c3 c4 : ClassId) (g0 b1 b2 b3 b4 b5 b6 b7 b8 : Nat) (e1 e2 e3 e4 e5 e6 e7 e8 : ClassId) (oa : Nat) (oc : ClassId) (hx : p.tables.exec = Jvm.exec) (hb : c.code = cL_law) (hml : c.maxLocals = 8) (hown : s.vm.findClass RL = some m.cls) (hts : ∀ w ∈ wb, w.before #[Value.ref b] s = true) (hX : va_X b L xs s s.heap) (hbl : b < s.heap.size) (hl9 : l.stackTraces = false) (hZ : hz_F (lz_A s) s s.heap) (hG : hz_G s) (hK : va_K (dC, dI) vwCl [(e1, .int), (e2, .int), (e3, .int), (e4, .int), (e5, .long), (e6, .boolean), (e7, .int), (e8, .int), (oc, .long), (c1, .long), (c2, .int), (c3, .int), (c4, .int)] s) (hL : L ≤ 2560) (n : Nat) (hn : 5 * n + 5 ≤ L) (ce : Nat → Int64) (rg : Nat → Int32) (tk : Int32) (ob : Int32) (co : Int32) (re : Nat → Int32) (rc : Int32) (np : Nat → Int32) (th : Int32) (kd : Nat → Int32) (zs : Nat → Int32) (od : Nat → Int32) (lk : Nat → Int32) (nu : Nat → Int64) (rb : Nat → Int32) (rm : Nat → Int32) (td : Nat → Int32) (om : Int32) (cm : Int32) (tp : Int32) (fo : Nat → Int64) {H : Heap} {locs : List Loc} {ls : Array Slot} (M : hp_S) (hW : hp_W M) (hC : hp_C M ce rg tk ob co) (hQ : hp_Q M kd zs od lk nu rm om cm) (hbad : hp_bad (xs (5 * n + 1)) 16 ∨ hp_bad (xs (5 * n + 3)) 41) (hP : va_P (dC, dI) vwCl [(g0, .inr (1, [.int th, .ref b1, .ref b2, .ref b3, .ref b4, .ref b5, .ref b6, .ref b7, .ref b8, .int om, .int cm, .int tp])), (b1, .inl (e1, 301, .inl kd)), (b2, .inl (e2, 301, .inl zs)), (b3, .inl (e3, 301, .inl od)), (b4, .inl (e4, 12040, .inl lk)), (b5, .inl (e5, 12040, .inr (.inl nu))), (b6, .inl (e6, 301, .inl rb)), (b7, .inl (e7, 16, .inl rm)), (b8, .inl (e8, 301, .inl td)), (oa, .inl (oc, 1, .inr (.inl fo))), (h0, .inr (0, [.ref a1, .ref a2, .int tk, .int ob, .int co, .ref a3, .int rc, .ref a4])), (a1, .inl (c1, 300, .inr (.inl ce))), (a2, .inl (c2, 16, .inl rg)), (a3, .inl (c3, 300, .inl re)), (a4, .inl (c4, 300, .inl np))] H) (hD : va_D (lz_A s) [(g0, .inr (1, [.int th, .ref b1, .ref b2, .ref b3, .ref b4, .ref b5, .ref b6, .ref b7, .ref b8, .int om, .int cm, .int tp])), (b1, .inl (e1, 301, .inl kd)), (b2, .inl (e2, 301, .inl zs)), (b3, .inl (e3, 301, .inl od)), (b4, .inl (e4, 12040, .inl lk)), (b5, .inl (e5, 12040, .inr (.inl nu))), (b6, .inl (e6, 301, .inl rb)), (b7, .inl (e7, 16, .inl rm)), (b8, .inl (e8, 301, .inl td)), (oa, .inl (oc, 1, .inr (.inl fo))), (h0, .inr (0, [.ref a1, .ref a2, .int tk, .int ob, .int co, .ref a3, .int rc, .ref a4])), (a1, .inl (c1, 300, .inr (.inl ce))), (a2, .inl (c2, 16, .inl rg)), (a3, .inl (c3, 300, .inl re)), (a4, .inl (c4, 300, .inl np))]) (hS : va_S (lz_A s) s.heap H locs) (hl : lv_has ls 8 [(4, .int (nI (5 * n))), (0, .ref b), (1, .ref h0), (2, .ref g0), (3, .ref oa)]) (hN : ∀ (ce : Nat → Int64) (rg : Nat → Int32) (tk : Int32) (ob : Int32) (co : Int32) (re : Nat → Int32) (rc : Int32) (np : Nat → Int32) (th : Int32) (kd : Nat → Int32) (zs : Nat → Int32) (od : Nat → Int32) (lk : Nat → Int32) (nu : Nat → Int64) (rb : Nat → Int32) (rm : Nat → Int32) (td : Nat → Int32) (om : Int32) (cm : Int32) (tp : Int32) (fo : Nat → Int64) (M : hp_S) (H : Heap) (locs : List Loc) (ls : Array Slot), (hp_W M ∧ hp_C M ce rg tk ob co ∧ hp_Q M kd zs od lk nu rm om cm) → va_P (dC, dI) vwCl [(g0, .inr (1, [.int th, .ref b1, .ref b2, .ref b3, .ref b4, .ref b5, .ref b6, .ref b7, .ref b8, .int om, .int cm, .int tp])), (b1, .inl (e1, 301, .inl kd)), (b2, .inl (e2, 301, .inl zs)), (b3, .inl (e3, 301, .inl od)), (b4, .inl (e4, 12040, .inl lk)), (b5, .inl (e5, 12040, .inr (.inl nu))), (b6, .inl (e6, 301, .inl rb)), (b7, .inl (e7, 16, .inl rm)), (b8, .inl (e8, 301, .inl td)), (oa, .inl (oc, 1, .inr (.inl fo))), (h0, .inr (0, [.ref a1, .ref a2, .int tk, .int ob, .int co, .ref a3, .int rc, .ref a4])), (a1, .inl (c1, 300, .inr (.inl ce))), (a2, .inl (c2, 16, .inl rg)), (a3, .inl (c3, 300, .inl re)), (a4, .inl (c4, 300, .inl np))] H → va_D (lz_A s) [(g0, .inr (1, [.int th, .ref b1, .ref b2, .ref b3, .ref b4, .ref b5, .ref b6, .ref b7, .ref b8, .int om, .int cm, .int tp])), (b1, .inl (e1, 301, .inl kd)), (b2, .inl (e2, 301, .inl zs)), (b3, .inl (e3, 301, .inl od)), (b4, .inl (e4, 12040, .inl lk)), (b5, .inl (e5, 12040, .inr (.inl nu))), (b6, .inl (e6, 301, .inl rb)), (b7, .inl (e7, 16, .inl rm)), (b8, .inl (e8, 301, .inl td)), (oa, .inl (oc, 1, .inr (.inl fo))), (h0, .inr (0, [.ref a1, .ref a2, .int tk, .int ob, .int co, .ref a3, .int rc, .ref a4])), (a1, .inl (c1, 300, .inr (.inl ce))), (a2, .inl (c2, 16, .inl rg)), (a3, .inl (c3, 300, .inl re)), (a4, .inl (c4, 300, .inl np))] → va_S (lz_A s) s.heap H locs → lv_has ls 8 [(4, .int (nI (5 * (n + 1)))), (0, .ref b), (1, .ref h0), (2, .ref g0), (3, .ref oa)] → W p l e room_1 s m #[Value.ref b] below meth c H locs (15 + (n + 1)) (26538 + 6 * (n + 1)) Q (F0 m 23 ls [])) : W p l e room_1 s m #[Value.ref b] below meth c H locs (15 + n) (26538 + 6 * n) Q (F0 m 96 ls []) := by
  have hbA : ¬ lz_A s b := Nat.not_le_of_lt hbl
  have hA : ∀ q : Nat, s.heap.size ≤ q → lz_A s q := fun q h => h
  refine lv_aload_n hx hb dL_law_96 rfl (lv_at hl 2 rfl) ?_
  refine lv_aload_n hx hb dL_law_97 rfl (lv_at hl 1 rfl) ?_
  refine lv_iload hx hb dL_law_98 (lv_at hl 0 rfl) ?_
  refine lv_iconst (v := 1) hx hb dL_law_100 (by decide) ?_
  refine lv_iadd hx hb dL_law_101 ?_
  refine hw_sld (j := 5 * n + 1) hx hb hX hbl hbA hS (nI_add (5 * n) 1) (by omega) (by omega) dL_law_102 ?_
  refine lv_aload_n hx hb dL_law_103 rfl (lv_at hl 1 rfl) ?_
  refine lv_iload hx hb dL_law_104 (lv_at hl 0 rfl) ?_
  refine lv_iconst (v := 2) hx hb dL_law_106 (by decide) ?_
  refine lv_iadd hx hb dL_law_107 ?_
  refine hw_sld (j := 5 * n + 2) hx hb hX hbl hbA hS (nI_add (5 * n) 2) (by omega) (by omega) dL_law_108 ?_
  refine lv_if_eq hx hb dL_law_109 (tgt := 116) (by decide) (fun hc => ?_) (fun hc => ?_)
  · have hy := hc
    refine lv_iconst (v := 0) hx hb dL_law_116 (by decide) ?_
    refine lv_aload_n hx hb dL_law_117 rfl (lv_at hl 1 rfl) ?_
    refine lv_iload hx hb dL_law_118 (lv_at hl 0 rfl) ?_
    refine lv_iconst (v := 3) hx hb dL_law_120 (by decide) ?_
    refine lv_iadd hx hb dL_law_121 ?_
    refine hw_sld (j := 5 * n + 3) hx hb hX hbl hbA hS (nI_add (5 * n) 3) (by omega) (by omega) dL_law_122 ?_
    refine lv_aload_n hx hb dL_law_123 rfl (lv_at hl 4 rfl) ?_
    have hPc := hP.sub (ws' := [(oa, .inl (oc, 1, .inr (.inl fo))), (h0, .inr (0, [.ref a1, .ref a2, .int tk, .int ob, .int co, .ref a3, .int rc, .ref a4])), (a1, .inl (c1, 300, .inr (.inl ce))), (a2, .inl (c2, 16, .inl rg)), (a3, .inl (c3, 300, .inl re)), (a4, .inl (c4, 300, .inl np))]) [9, 10, 11, 12, 13, 14] rfl
    have hDc := hD.sub (ws' := [(oa, .inl (oc, 1, .inr (.inl fo))), (h0, .inr (0, [.ref a1, .ref a2, .int tk, .int ob, .int co, .ref a3, .int rc, .ref a4])), (a1, .inl (c1, 300, .inr (.inl ce))), (a2, .inl (c2, 16, .inl rg)), (a3, .inl (c3, 300, .inl re)), (a4, .inl (c4, 300, .inl np))]) [9, 10, 11, 12, 13, 14] (by decide) rfl
    have hKc := hK.sub (tys' := [(oc, .long), (c1, .long), (c2, .int), (c3, .int), (c4, .int)]) [8, 9, 10, 11, 12] rfl
    refine hw_calliP (wc := [(oa, .inl (oc, 1, .inr (.inl fo))), (h0, .inr (0, [.ref a1, .ref a2, .int tk, .int ob, .int co, .ref a3, .int rc, .ref a4])), (a1, .inl (c1, 300, .inr (.inl ce))), (a2, .inl (c2, 16, .inl rg)), (a3, .inl (c3, 300, .inl re)), (a4, .inl (c4, 300, .inl np))]) (wr := [(g0, .inr (1, [.int th, .ref b1, .ref b2, .ref b3, .ref b4, .ref b5, .ref b6, .ref b7, .ref b8, .int om, .int cm, .int tp])), (b1, .inl (e1, 301, .inl kd)), (b2, .inl (e2, 301, .inl zs)), (b3, .inl (e3, 301, .inl od)), (b4, .inl (e4, 12040, .inl lk)), (b5, .inl (e5, 12040, .inr (.inl nu))), (b6, .inl (e6, 301, .inl rb)), (b7, .inl (e7, 16, .inl rm)), (b8, .inl (e8, 301, .inl td))]) [9, 10, 11, 12, 13, 14] [0, 1, 2, 3, 4, 5, 6, 7, 8] (vx_runSW (As := [.ref h0, .int (xs (5 * n + 1)), .int 0, .int (xs (5 * n + 3)), .ref oa]) (rest := []) ⟨hx, hb, hml, hown, hts⟩ (w1_make l dC dI h0 a1 a2 a3 a4 c1 c2 c3 c4 oa oc ce rg tk ob co re rc np _ fo hl9 (xs (5 * n + 1)) 0 (xs (5 * n + 3)) hbad) (vx_cwSW 5 hts gw_L_53 rfl rfl rfl ⟨by decide, by decide, by decide +kernel⟩ ⟨Nat.le_of_ble_eq_true rfl, Nat.le_of_ble_eq_true rfl⟩) ⟨hv_blind, hv_pay hPc hKc hDc hS hA hZ hG⟩ rfl rfl hl.1 rfl (lv_room (Nat.le_of_ble_eq_true rfl)) dL_law_124 ⟨by show _ ≤ 1043; omega, by show _ ≤ 34754; omega⟩) hP hD hS hA rfl rfl (by decide) (by decide) (fun r9 u9 H locs hw hP hD hS => ?_)
    obtain ⟨fo1, hfo1⟩ : ∃ z, z = u9 := ⟨_, rfl⟩
    rw [← hfo1] at hP hD
    have hP : va_P (dC, dI) vwCl [(g0, .inr (1, [.int th, .ref b1, .ref b2, .ref b3, .ref b4, .ref b5, .ref b6, .ref b7, .ref b8, .int om, .int cm, .int tp])), (b1, .inl (e1, 301, .inl kd)), (b2, .inl (e2, 301, .inl zs)), (b3, .inl (e3, 301, .inl od)), (b4, .inl (e4, 12040, .inl lk)), (b5, .inl (e5, 12040, .inr (.inl nu))), (b6, .inl (e6, 301, .inl rb)), (b7, .inl (e7, 16, .inl rm)), (b8, .inl (e8, 301, .inl td)), (oa, .inl (oc, 1, .inr (.inl fo1))), (h0, .inr (0, [.ref a1, .ref a2, .int tk, .int ob, .int co, .ref a3, .int rc, .ref a4])), (a1, .inl (c1, 300, .inr (.inl ce))), (a2, .inl (c2, 16, .inl rg)), (a3, .inl (c3, 300, .inl re)), (a4, .inl (c4, 300, .inl np))] H := hP
    have hD : va_D (lz_A s) [(g0, .inr (1, [.int th, .ref b1, .ref b2, .ref b3, .ref b4, .ref b5, .ref b6, .ref b7, .ref b8, .int om, .int cm, .int tp])), (b1, .inl (e1, 301, .inl kd)), (b2, .inl (e2, 301, .inl zs)), (b3, .inl (e3, 301, .inl od)), (b4, .inl (e4, 12040, .inl lk)), (b5, .inl (e5, 12040, .inr (.inl nu))), (b6, .inl (e6, 301, .inl rb)), (b7, .inl (e7, 16, .inl rm)), (b8, .inl (e8, 301, .inl td)), (oa, .inl (oc, 1, .inr (.inl fo1))), (h0, .inr (0, [.ref a1, .ref a2, .int tk, .int ob, .int co, .ref a3, .int rc, .ref a4])), (a1, .inl (c1, 300, .inr (.inl ce))), (a2, .inl (c2, 16, .inl rg)), (a3, .inl (c3, 300, .inl re)), (a4, .inl (c4, 300, .inl np))] := hD
    have hr9 := hw
    subst hr9
    refine lv_istore hx hb dL_law_127 hl (by decide) rfl (fun ls hl => ?_)
    have hl : lv_has ls 8 [(5, .int 1), (4, .int (nI (5 * n))), (0, .ref b), (1, .ref h0), (2, .ref g0), (3, .ref oa)] := hl
    refine lv_aload_n hx hb dL_law_129 rfl (lv_at hl 4 rfl) ?_
    refine lv_aload_n hx hb dL_law_130 rfl (lv_at hl 2 rfl) ?_
    refine lv_iload hx hb dL_law_131 (lv_at hl 1 rfl) ?_
    refine lv_iconst (v := 1) hx hb dL_law_133 (by decide) ?_
    refine lv_iadd hx hb dL_law_134 ?_
    refine hw_sld (j := 5 * n + 1) hx hb hX hbl hbA hS (nI_add (5 * n) 1) (by omega) (by omega) dL_law_135 ?_
    refine lv_aload_n hx hb dL_law_136 rfl (lv_at hl 2 rfl) ?_
    refine lv_iload hx hb dL_law_137 (lv_at hl 1 rfl) ?_
    refine lv_iconst (v := 2) hx hb dL_law_139 (by decide) ?_
    refine lv_iadd hx hb dL_law_140 ?_
    refine hw_sld (j := 5 * n + 2) hx hb hX hbl hbA hS (nI_add (5 * n) 2) (by omega) (by omega) dL_law_141 ?_
    refine lv_if_eq hx hb dL_law_142 (tgt := 149) (by decide) (fun hc => ?_) (fun hc => ?_)
    · skip
      refine lv_iconst (v := 0) hx hb dL_law_149 (by decide) ?_
      refine lv_aload_n hx hb dL_law_150 rfl (lv_at hl 2 rfl) ?_
      refine lv_iload hx hb dL_law_151 (lv_at hl 1 rfl) ?_
      refine lv_iconst (v := 3) hx hb dL_law_153 (by decide) ?_
      refine lv_iadd hx hb dL_law_154 ?_
      refine hw_sld (j := 5 * n + 3) hx hb hX hbl hbA hS (nI_add (5 * n) 3) (by omega) (by omega) dL_law_155 ?_
      have hPc := hP.sub (ws' := [(g0, .inr (1, [.int th, .ref b1, .ref b2, .ref b3, .ref b4, .ref b5, .ref b6, .ref b7, .ref b8, .int om, .int cm, .int tp])), (b1, .inl (e1, 301, .inl kd)), (b2, .inl (e2, 301, .inl zs)), (b3, .inl (e3, 301, .inl od)), (b4, .inl (e4, 12040, .inl lk)), (b5, .inl (e5, 12040, .inr (.inl nu))), (b6, .inl (e6, 301, .inl rb)), (b7, .inl (e7, 16, .inl rm)), (b8, .inl (e8, 301, .inl td))]) [0, 1, 2, 3, 4, 5, 6, 7, 8] rfl
      have hDc := hD.sub (ws' := [(g0, .inr (1, [.int th, .ref b1, .ref b2, .ref b3, .ref b4, .ref b5, .ref b6, .ref b7, .ref b8, .int om, .int cm, .int tp])), (b1, .inl (e1, 301, .inl kd)), (b2, .inl (e2, 301, .inl zs)), (b3, .inl (e3, 301, .inl od)), (b4, .inl (e4, 12040, .inl lk)), (b5, .inl (e5, 12040, .inr (.inl nu))), (b6, .inl (e6, 301, .inl rb)), (b7, .inl (e7, 16, .inl rm)), (b8, .inl (e8, 301, .inl td))]) [0, 1, 2, 3, 4, 5, 6, 7, 8] (by decide) rfl
      have hKc := hK.sub (tys' := [(e1, .int), (e2, .int), (e3, .int), (e4, .int), (e5, .long), (e6, .boolean), (e7, .int), (e8, .int)]) [0, 1, 2, 3, 4, 5, 6, 7] rfl
      refine hw_calliP (wc := [(g0, .inr (1, [.int th, .ref b1, .ref b2, .ref b3, .ref b4, .ref b5, .ref b6, .ref b7, .ref b8, .int om, .int cm, .int tp])), (b1, .inl (e1, 301, .inl kd)), (b2, .inl (e2, 301, .inl zs)), (b3, .inl (e3, 301, .inl od)), (b4, .inl (e4, 12040, .inl lk)), (b5, .inl (e5, 12040, .inr (.inl nu))), (b6, .inl (e6, 301, .inl rb)), (b7, .inl (e7, 16, .inl rm)), (b8, .inl (e8, 301, .inl td))]) (wr := [(oa, .inl (oc, 1, .inr (.inl fo1))), (h0, .inr (0, [.ref a1, .ref a2, .int tk, .int ob, .int co, .ref a3, .int rc, .ref a4])), (a1, .inl (c1, 300, .inr (.inl ce))), (a2, .inl (c2, 16, .inl rg)), (a3, .inl (c3, 300, .inl re)), (a4, .inl (c4, 300, .inl np))]) [0, 1, 2, 3, 4, 5, 6, 7, 8] [9, 10, 11, 12, 13, 14] (va_runV (As := [.int (xs (5 * n + 1)), .int 0, .int (xs (5 * n + 3))]) (rest := []) ⟨hx, hb, hml, hown, hts⟩ (c0_X1_make l dC dI g0 b1 b2 b3 b4 b5 b6 b7 b8 e1 e2 e3 e4 e5 e6 e7 e8 th kd zs od lk nu rb rm td om cm tp _ M hW hQ (xs (5 * n + 1)) 0 (xs (5 * n + 3)) hbad) (cwV 3 hts gw_L_58 rfl rfl rfl ⟨rfl, by decide, by decide, by decide +kernel⟩ ⟨Nat.le_of_ble_eq_true rfl, Nat.le_of_ble_eq_true rfl⟩) ⟨hw_blind, va_recv (q0 := 0) (ci := 1) (q := (RX1, TX1, 12)) hKc hPc rfl rfl, hw_pay hPc hKc hDc⟩ rfl rfl hl.1 rfl (lv_room (Nat.le_of_ble_eq_true rfl)) dL_law_156 ⟨by show _ ≤ 1043; omega, by show _ ≤ 34754; omega⟩) hP hD hS hA rfl rfl (by decide) (by decide) (fun r9m u9 H locs hw hP hD hS => ?_)
      obtain ⟨th1, hth1⟩ : ∃ z, z = u9 := ⟨_, rfl⟩
      rw [← hth1] at hP hD hw
      have hP := hP.sub (ws' := [(g0, .inr (1, [.int th1, .ref b1, .ref b2, .ref b3, .ref b4, .ref b5, .ref b6, .ref b7, .ref b8, .int om, .int cm, .int tp])), (b1, .inl (e1, 301, .inl kd)), (b2, .inl (e2, 301, .inl zs)), (b3, .inl (e3, 301, .inl od)), (b4, .inl (e4, 12040, .inl lk)), (b5, .inl (e5, 12040, .inr (.inl nu))), (b6, .inl (e6, 301, .inl rb)), (b7, .inl (e7, 16, .inl rm)), (b8, .inl (e8, 301, .inl td)), (oa, .inl (oc, 1, .inr (.inl fo1))), (h0, .inr (0, [.ref a1, .ref a2, .int tk, .int ob, .int co, .ref a3, .int rc, .ref a4])), (a1, .inl (c1, 300, .inr (.inl ce))), (a2, .inl (c2, 16, .inl rg)), (a3, .inl (c3, 300, .inl re)), (a4, .inl (c4, 300, .inl np))]) [6, 7, 8, 9, 10, 11, 12, 13, 14, 0, 1, 2, 3, 4, 5] rfl
      have hD := hD.sub (ws' := [(g0, .inr (1, [.int th1, .ref b1, .ref b2, .ref b3, .ref b4, .ref b5, .ref b6, .ref b7, .ref b8, .int om, .int cm, .int tp])), (b1, .inl (e1, 301, .inl kd)), (b2, .inl (e2, 301, .inl zs)), (b3, .inl (e3, 301, .inl od)), (b4, .inl (e4, 12040, .inl lk)), (b5, .inl (e5, 12040, .inr (.inl nu))), (b6, .inl (e6, 301, .inl rb)), (b7, .inl (e7, 16, .inl rm)), (b8, .inl (e8, 301, .inl td)), (oa, .inl (oc, 1, .inr (.inl fo1))), (h0, .inr (0, [.ref a1, .ref a2, .int tk, .int ob, .int co, .ref a3, .int rc, .ref a4])), (a1, .inl (c1, 300, .inr (.inl ce))), (a2, .inl (c2, 16, .inl rg)), (a3, .inl (c3, 300, .inl re)), (a4, .inl (c4, 300, .inl np))]) [6, 7, 8, 9, 10, 11, 12, 13, 14, 0, 1, 2, 3, 4, 5] (by decide) rfl
      have hP : va_P (dC, dI) vwCl [(g0, .inr (1, [.int th1, .ref b1, .ref b2, .ref b3, .ref b4, .ref b5, .ref b6, .ref b7, .ref b8, .int om, .int cm, .int tp])), (b1, .inl (e1, 301, .inl kd)), (b2, .inl (e2, 301, .inl zs)), (b3, .inl (e3, 301, .inl od)), (b4, .inl (e4, 12040, .inl lk)), (b5, .inl (e5, 12040, .inr (.inl nu))), (b6, .inl (e6, 301, .inl rb)), (b7, .inl (e7, 16, .inl rm)), (b8, .inl (e8, 301, .inl td)), (oa, .inl (oc, 1, .inr (.inl fo1))), (h0, .inr (0, [.ref a1, .ref a2, .int tk, .int ob, .int co, .ref a3, .int rc, .ref a4])), (a1, .inl (c1, 300, .inr (.inl ce))), (a2, .inl (c2, 16, .inl rg)), (a3, .inl (c3, 300, .inl re)), (a4, .inl (c4, 300, .inl np))] H := hP
      have hD : va_D (lz_A s) [(g0, .inr (1, [.int th1, .ref b1, .ref b2, .ref b3, .ref b4, .ref b5, .ref b6, .ref b7, .ref b8, .int om, .int cm, .int tp])), (b1, .inl (e1, 301, .inl kd)), (b2, .inl (e2, 301, .inl zs)), (b3, .inl (e3, 301, .inl od)), (b4, .inl (e4, 12040, .inl lk)), (b5, .inl (e5, 12040, .inr (.inl nu))), (b6, .inl (e6, 301, .inl rb)), (b7, .inl (e7, 16, .inl rm)), (b8, .inl (e8, 301, .inl td)), (oa, .inl (oc, 1, .inr (.inl fo1))), (h0, .inr (0, [.ref a1, .ref a2, .int tk, .int ob, .int co, .ref a3, .int rc, .ref a4])), (a1, .inl (c1, 300, .inr (.inl ce))), (a2, .inl (c2, 16, .inl rg)), (a3, .inl (c3, 300, .inl re)), (a4, .inl (c4, 300, .inl np))] := hD
      have hth := hw
      refine lv_istore hx hb dL_law_159 hl (by decide) rfl (fun ls hl => ?_)
      have hl : lv_has ls 8 [(6, .int r9m), (5, .int 1), (4, .int (nI (5 * n))), (0, .ref b), (1, .ref h0), (2, .ref g0), (3, .ref oa)] := hl
      refine lv_aload_n hx hb dL_law_161 rfl (lv_at hl 5 rfl) ?_
      have hPc := hP.sub (ws' := [(g0, .inr (1, [.int th1, .ref b1, .ref b2, .ref b3, .ref b4, .ref b5, .ref b6, .ref b7, .ref b8, .int om, .int cm, .int tp])), (b1, .inl (e1, 301, .inl kd)), (b2, .inl (e2, 301, .inl zs)), (b3, .inl (e3, 301, .inl od)), (b4, .inl (e4, 12040, .inl lk)), (b5, .inl (e5, 12040, .inr (.inl nu))), (b6, .inl (e6, 301, .inl rb)), (b7, .inl (e7, 16, .inl rm)), (b8, .inl (e8, 301, .inl td))]) [0, 1, 2, 3, 4, 5, 6, 7, 8] rfl
      have hDc := hD.sub (ws' := [(g0, .inr (1, [.int th1, .ref b1, .ref b2, .ref b3, .ref b4, .ref b5, .ref b6, .ref b7, .ref b8, .int om, .int cm, .int tp])), (b1, .inl (e1, 301, .inl kd)), (b2, .inl (e2, 301, .inl zs)), (b3, .inl (e3, 301, .inl od)), (b4, .inl (e4, 12040, .inl lk)), (b5, .inl (e5, 12040, .inr (.inl nu))), (b6, .inl (e6, 301, .inl rb)), (b7, .inl (e7, 16, .inl rm)), (b8, .inl (e8, 301, .inl td))]) [0, 1, 2, 3, 4, 5, 6, 7, 8] (by decide) rfl
      have hKc := hK.sub (tys' := [(e1, .int), (e2, .int), (e3, .int), (e4, .int), (e5, .long), (e6, .boolean), (e7, .int), (e8, .int)]) [0, 1, 2, 3, 4, 5, 6, 7] rfl
      refine W.callR (W.runV (As := []) (rest := []) ⟨hx, hb, hml, hown, hts⟩ (c_X1_thrown l dC dI g0 b1 b2 b3 b4 b5 b6 b7 b8 e1 e2 e3 e4 e5 e6 e7 e8 th1 kd zs od lk nu rb rm td om cm tp _ ) (cwV 0 hts gw_L_59 rfl rfl rfl ⟨rfl, by decide, by decide, by decide +kernel⟩ ⟨Nat.le_of_ble_eq_true rfl, Nat.le_of_ble_eq_true rfl⟩) ⟨hw_blind, va_recv (q0 := 0) (ci := 1) (q := (RX1, TX1, 12)) hKc hPc rfl rfl, hw_pay hPc hKc hDc⟩ rfl rfl hl.1 rfl (lv_room (Nat.le_of_ble_eq_true rfl)) dL_law_162 ⟨by show _ ≤ 1043; omega, by show _ ≤ 34754; omega⟩) ?_
      refine W.eq (g2 := F0 m 165 ls [.int th1]) rfl ?_
      refine hw_topi (y := 1) (hth) ?_
      refine lv_iload hx hb dL_law_165 (lv_at hl 1 rfl) ?_
      refine lv_icmp_eq hx hb dL_law_167 (tgt := 172) (by decide) (fun hc => ?_) (fun hc => ?_)
      · skip
        refine lv_iload hx hb dL_law_172 (lv_at hl 1 rfl) ?_
        refine lv_if_ne hx hb dL_law_174 (tgt := 189) (by decide) (fun hc => ?_) (fun hc => ?_)
        · skip
          refine lv_goto hx hb dL_law_189 (tgt := 729) (by decide) ?_
          refine lv_iinc (k := 2) (v := nI (5 * (n + 1))) hx hb dL_law_729 hl rfl (nI_add (5 * n) 5) (by decide) rfl (fun ls hl => ?_)
          have hl : lv_has ls 8 [(4, .int (nI (5 * (n + 1)))), (6, .int r9m), (5, .int 1), (0, .ref b), (1, .ref h0), (2, .ref g0), (3, .ref oa)] := hl
          refine lv_goto hx hb dL_law_732 (tgt := 23) (by decide) ?_
          refine W.widen (k := 15 + (n + 1)) (n := 26538 + 6 * (n + 1)) (by omega) (by omega) ?_
          exact hN ce rg tk ob co re rc np th1 kd zs od lk nu rb rm td om cm tp fo1 M H locs ls ⟨hW, hC, hQ⟩ hP hD hS (lv_sub hl [0, 3, 4, 5, 6] rfl)
        · exact absurd hc hp_10
      · exact absurd rfl hc
    · exact absurd hy hc
  · have hy := hc
    refine lv_iconst (v := 1) hx hb dL_law_112 (by decide) ?_
    refine lv_goto hx hb dL_law_113 (tgt := 117) (by decide) ?_
    refine lv_aload_n hx hb dL_law_117 rfl (lv_at hl 1 rfl) ?_
    refine lv_iload hx hb dL_law_118 (lv_at hl 0 rfl) ?_
    refine lv_iconst (v := 3) hx hb dL_law_120 (by decide) ?_
    refine lv_iadd hx hb dL_law_121 ?_
    refine hw_sld (j := 5 * n + 3) hx hb hX hbl hbA hS (nI_add (5 * n) 3) (by omega) (by omega) dL_law_122 ?_
    refine lv_aload_n hx hb dL_law_123 rfl (lv_at hl 4 rfl) ?_
    have hPc := hP.sub (ws' := [(oa, .inl (oc, 1, .inr (.inl fo))), (h0, .inr (0, [.ref a1, .ref a2, .int tk, .int ob, .int co, .ref a3, .int rc, .ref a4])), (a1, .inl (c1, 300, .inr (.inl ce))), (a2, .inl (c2, 16, .inl rg)), (a3, .inl (c3, 300, .inl re)), (a4, .inl (c4, 300, .inl np))]) [9, 10, 11, 12, 13, 14] rfl
    have hDc := hD.sub (ws' := [(oa, .inl (oc, 1, .inr (.inl fo))), (h0, .inr (0, [.ref a1, .ref a2, .int tk, .int ob, .int co, .ref a3, .int rc, .ref a4])), (a1, .inl (c1, 300, .inr (.inl ce))), (a2, .inl (c2, 16, .inl rg)), (a3, .inl (c3, 300, .inl re)), (a4, .inl (c4, 300, .inl np))]) [9, 10, 11, 12, 13, 14] (by decide) rfl
    have hKc := hK.sub (tys' := [(oc, .long), (c1, .long), (c2, .int), (c3, .int), (c4, .int)]) [8, 9, 10, 11, 12] rfl
    refine hw_calliP (wc := [(oa, .inl (oc, 1, .inr (.inl fo))), (h0, .inr (0, [.ref a1, .ref a2, .int tk, .int ob, .int co, .ref a3, .int rc, .ref a4])), (a1, .inl (c1, 300, .inr (.inl ce))), (a2, .inl (c2, 16, .inl rg)), (a3, .inl (c3, 300, .inl re)), (a4, .inl (c4, 300, .inl np))]) (wr := [(g0, .inr (1, [.int th, .ref b1, .ref b2, .ref b3, .ref b4, .ref b5, .ref b6, .ref b7, .ref b8, .int om, .int cm, .int tp])), (b1, .inl (e1, 301, .inl kd)), (b2, .inl (e2, 301, .inl zs)), (b3, .inl (e3, 301, .inl od)), (b4, .inl (e4, 12040, .inl lk)), (b5, .inl (e5, 12040, .inr (.inl nu))), (b6, .inl (e6, 301, .inl rb)), (b7, .inl (e7, 16, .inl rm)), (b8, .inl (e8, 301, .inl td))]) [9, 10, 11, 12, 13, 14] [0, 1, 2, 3, 4, 5, 6, 7, 8] (vx_runSW (As := [.ref h0, .int (xs (5 * n + 1)), .int 1, .int (xs (5 * n + 3)), .ref oa]) (rest := []) ⟨hx, hb, hml, hown, hts⟩ (w1_make l dC dI h0 a1 a2 a3 a4 c1 c2 c3 c4 oa oc ce rg tk ob co re rc np _ fo hl9 (xs (5 * n + 1)) 1 (xs (5 * n + 3)) hbad) (vx_cwSW 5 hts gw_L_53 rfl rfl rfl ⟨by decide, by decide, by decide +kernel⟩ ⟨Nat.le_of_ble_eq_true rfl, Nat.le_of_ble_eq_true rfl⟩) ⟨hv_blind, hv_pay hPc hKc hDc hS hA hZ hG⟩ rfl rfl hl.1 rfl (lv_room (Nat.le_of_ble_eq_true rfl)) dL_law_124 ⟨by show _ ≤ 1043; omega, by show _ ≤ 34754; omega⟩) hP hD hS hA rfl rfl (by decide) (by decide) (fun r9 u9 H locs hw hP hD hS => ?_)
    obtain ⟨fo1, hfo1⟩ : ∃ z, z = u9 := ⟨_, rfl⟩
    rw [← hfo1] at hP hD
    have hP : va_P (dC, dI) vwCl [(g0, .inr (1, [.int th, .ref b1, .ref b2, .ref b3, .ref b4, .ref b5, .ref b6, .ref b7, .ref b8, .int om, .int cm, .int tp])), (b1, .inl (e1, 301, .inl kd)), (b2, .inl (e2, 301, .inl zs)), (b3, .inl (e3, 301, .inl od)), (b4, .inl (e4, 12040, .inl lk)), (b5, .inl (e5, 12040, .inr (.inl nu))), (b6, .inl (e6, 301, .inl rb)), (b7, .inl (e7, 16, .inl rm)), (b8, .inl (e8, 301, .inl td)), (oa, .inl (oc, 1, .inr (.inl fo1))), (h0, .inr (0, [.ref a1, .ref a2, .int tk, .int ob, .int co, .ref a3, .int rc, .ref a4])), (a1, .inl (c1, 300, .inr (.inl ce))), (a2, .inl (c2, 16, .inl rg)), (a3, .inl (c3, 300, .inl re)), (a4, .inl (c4, 300, .inl np))] H := hP
    have hD : va_D (lz_A s) [(g0, .inr (1, [.int th, .ref b1, .ref b2, .ref b3, .ref b4, .ref b5, .ref b6, .ref b7, .ref b8, .int om, .int cm, .int tp])), (b1, .inl (e1, 301, .inl kd)), (b2, .inl (e2, 301, .inl zs)), (b3, .inl (e3, 301, .inl od)), (b4, .inl (e4, 12040, .inl lk)), (b5, .inl (e5, 12040, .inr (.inl nu))), (b6, .inl (e6, 301, .inl rb)), (b7, .inl (e7, 16, .inl rm)), (b8, .inl (e8, 301, .inl td)), (oa, .inl (oc, 1, .inr (.inl fo1))), (h0, .inr (0, [.ref a1, .ref a2, .int tk, .int ob, .int co, .ref a3, .int rc, .ref a4])), (a1, .inl (c1, 300, .inr (.inl ce))), (a2, .inl (c2, 16, .inl rg)), (a3, .inl (c3, 300, .inl re)), (a4, .inl (c4, 300, .inl np))] := hD
    have hr9 := hw
    subst hr9
    refine lv_istore hx hb dL_law_127 hl (by decide) rfl (fun ls hl => ?_)
    have hl : lv_has ls 8 [(5, .int 1), (4, .int (nI (5 * n))), (0, .ref b), (1, .ref h0), (2, .ref g0), (3, .ref oa)] := hl
    refine lv_aload_n hx hb dL_law_129 rfl (lv_at hl 4 rfl) ?_
    refine lv_aload_n hx hb dL_law_130 rfl (lv_at hl 2 rfl) ?_
    refine lv_iload hx hb dL_law_131 (lv_at hl 1 rfl) ?_
    refine lv_iconst (v := 1) hx hb dL_law_133 (by decide) ?_
    refine lv_iadd hx hb dL_law_134 ?_
    refine hw_sld (j := 5 * n + 1) hx hb hX hbl hbA hS (nI_add (5 * n) 1) (by omega) (by omega) dL_law_135 ?_
    refine lv_aload_n hx hb dL_law_136 rfl (lv_at hl 2 rfl) ?_
    refine lv_iload hx hb dL_law_137 (lv_at hl 1 rfl) ?_
    refine lv_iconst (v := 2) hx hb dL_law_139 (by decide) ?_
    refine lv_iadd hx hb dL_law_140 ?_
    refine hw_sld (j := 5 * n + 2) hx hb hX hbl hbA hS (nI_add (5 * n) 2) (by omega) (by omega) dL_law_141 ?_
    refine lv_if_eq hx hb dL_law_142 (tgt := 149) (by decide) (fun hc => ?_) (fun hc => ?_)
    · exact absurd hc hy
    · skip
      refine lv_iconst (v := 1) hx hb dL_law_145 (by decide) ?_
      refine lv_goto hx hb dL_law_146 (tgt := 150) (by decide) ?_
      refine lv_aload_n hx hb dL_law_150 rfl (lv_at hl 2 rfl) ?_
      refine lv_iload hx hb dL_law_151 (lv_at hl 1 rfl) ?_
      refine lv_iconst (v := 3) hx hb dL_law_153 (by decide) ?_
      refine lv_iadd hx hb dL_law_154 ?_
      refine hw_sld (j := 5 * n + 3) hx hb hX hbl hbA hS (nI_add (5 * n) 3) (by omega) (by omega) dL_law_155 ?_
      have hPc := hP.sub (ws' := [(g0, .inr (1, [.int th, .ref b1, .ref b2, .ref b3, .ref b4, .ref b5, .ref b6, .ref b7, .ref b8, .int om, .int cm, .int tp])), (b1, .inl (e1, 301, .inl kd)), (b2, .inl (e2, 301, .inl zs)), (b3, .inl (e3, 301, .inl od)), (b4, .inl (e4, 12040, .inl lk)), (b5, .inl (e5, 12040, .inr (.inl nu))), (b6, .inl (e6, 301, .inl rb)), (b7, .inl (e7, 16, .inl rm)), (b8, .inl (e8, 301, .inl td))]) [0, 1, 2, 3, 4, 5, 6, 7, 8] rfl
      have hDc := hD.sub (ws' := [(g0, .inr (1, [.int th, .ref b1, .ref b2, .ref b3, .ref b4, .ref b5, .ref b6, .ref b7, .ref b8, .int om, .int cm, .int tp])), (b1, .inl (e1, 301, .inl kd)), (b2, .inl (e2, 301, .inl zs)), (b3, .inl (e3, 301, .inl od)), (b4, .inl (e4, 12040, .inl lk)), (b5, .inl (e5, 12040, .inr (.inl nu))), (b6, .inl (e6, 301, .inl rb)), (b7, .inl (e7, 16, .inl rm)), (b8, .inl (e8, 301, .inl td))]) [0, 1, 2, 3, 4, 5, 6, 7, 8] (by decide) rfl
      have hKc := hK.sub (tys' := [(e1, .int), (e2, .int), (e3, .int), (e4, .int), (e5, .long), (e6, .boolean), (e7, .int), (e8, .int)]) [0, 1, 2, 3, 4, 5, 6, 7] rfl
      refine hw_calliP (wc := [(g0, .inr (1, [.int th, .ref b1, .ref b2, .ref b3, .ref b4, .ref b5, .ref b6, .ref b7, .ref b8, .int om, .int cm, .int tp])), (b1, .inl (e1, 301, .inl kd)), (b2, .inl (e2, 301, .inl zs)), (b3, .inl (e3, 301, .inl od)), (b4, .inl (e4, 12040, .inl lk)), (b5, .inl (e5, 12040, .inr (.inl nu))), (b6, .inl (e6, 301, .inl rb)), (b7, .inl (e7, 16, .inl rm)), (b8, .inl (e8, 301, .inl td))]) (wr := [(oa, .inl (oc, 1, .inr (.inl fo1))), (h0, .inr (0, [.ref a1, .ref a2, .int tk, .int ob, .int co, .ref a3, .int rc, .ref a4])), (a1, .inl (c1, 300, .inr (.inl ce))), (a2, .inl (c2, 16, .inl rg)), (a3, .inl (c3, 300, .inl re)), (a4, .inl (c4, 300, .inl np))]) [0, 1, 2, 3, 4, 5, 6, 7, 8] [9, 10, 11, 12, 13, 14] (va_runV (As := [.int (xs (5 * n + 1)), .int 1, .int (xs (5 * n + 3))]) (rest := []) ⟨hx, hb, hml, hown, hts⟩ (c0_X1_make l dC dI g0 b1 b2 b3 b4 b5 b6 b7 b8 e1 e2 e3 e4 e5 e6 e7 e8 th kd zs od lk nu rb rm td om cm tp _ M hW hQ (xs (5 * n + 1)) 1 (xs (5 * n + 3)) hbad) (cwV 3 hts gw_L_58 rfl rfl rfl ⟨rfl, by decide, by decide, by decide +kernel⟩ ⟨Nat.le_of_ble_eq_true rfl, Nat.le_of_ble_eq_true rfl⟩) ⟨hw_blind, va_recv (q0 := 0) (ci := 1) (q := (RX1, TX1, 12)) hKc hPc rfl rfl, hw_pay hPc hKc hDc⟩ rfl rfl hl.1 rfl (lv_room (Nat.le_of_ble_eq_true rfl)) dL_law_156 ⟨by show _ ≤ 1043; omega, by show _ ≤ 34754; omega⟩) hP hD hS hA rfl rfl (by decide) (by decide) (fun r9m u9 H locs hw hP hD hS => ?_)
      obtain ⟨th1, hth1⟩ : ∃ z, z = u9 := ⟨_, rfl⟩
      rw [← hth1] at hP hD hw
      have hP := hP.sub (ws' := [(g0, .inr (1, [.int th1, .ref b1, .ref b2, .ref b3, .ref b4, .ref b5, .ref b6, .ref b7, .ref b8, .int om, .int cm, .int tp])), (b1, .inl (e1, 301, .inl kd)), (b2, .inl (e2, 301, .inl zs)), (b3, .inl (e3, 301, .inl od)), (b4, .inl (e4, 12040, .inl lk)), (b5, .inl (e5, 12040, .inr (.inl nu))), (b6, .inl (e6, 301, .inl rb)), (b7, .inl (e7, 16, .inl rm)), (b8, .inl (e8, 301, .inl td)), (oa, .inl (oc, 1, .inr (.inl fo1))), (h0, .inr (0, [.ref a1, .ref a2, .int tk, .int ob, .int co, .ref a3, .int rc, .ref a4])), (a1, .inl (c1, 300, .inr (.inl ce))), (a2, .inl (c2, 16, .inl rg)), (a3, .inl (c3, 300, .inl re)), (a4, .inl (c4, 300, .inl np))]) [6, 7, 8, 9, 10, 11, 12, 13, 14, 0, 1, 2, 3, 4, 5] rfl
      have hD := hD.sub (ws' := [(g0, .inr (1, [.int th1, .ref b1, .ref b2, .ref b3, .ref b4, .ref b5, .ref b6, .ref b7, .ref b8, .int om, .int cm, .int tp])), (b1, .inl (e1, 301, .inl kd)), (b2, .inl (e2, 301, .inl zs)), (b3, .inl (e3, 301, .inl od)), (b4, .inl (e4, 12040, .inl lk)), (b5, .inl (e5, 12040, .inr (.inl nu))), (b6, .inl (e6, 301, .inl rb)), (b7, .inl (e7, 16, .inl rm)), (b8, .inl (e8, 301, .inl td)), (oa, .inl (oc, 1, .inr (.inl fo1))), (h0, .inr (0, [.ref a1, .ref a2, .int tk, .int ob, .int co, .ref a3, .int rc, .ref a4])), (a1, .inl (c1, 300, .inr (.inl ce))), (a2, .inl (c2, 16, .inl rg)), (a3, .inl (c3, 300, .inl re)), (a4, .inl (c4, 300, .inl np))]) [6, 7, 8, 9, 10, 11, 12, 13, 14, 0, 1, 2, 3, 4, 5] (by decide) rfl
      have hP : va_P (dC, dI) vwCl [(g0, .inr (1, [.int th1, .ref b1, .ref b2, .ref b3, .ref b4, .ref b5, .ref b6, .ref b7, .ref b8, .int om, .int cm, .int tp])), (b1, .inl (e1, 301, .inl kd)), (b2, .inl (e2, 301, .inl zs)), (b3, .inl (e3, 301, .inl od)), (b4, .inl (e4, 12040, .inl lk)), (b5, .inl (e5, 12040, .inr (.inl nu))), (b6, .inl (e6, 301, .inl rb)), (b7, .inl (e7, 16, .inl rm)), (b8, .inl (e8, 301, .inl td)), (oa, .inl (oc, 1, .inr (.inl fo1))), (h0, .inr (0, [.ref a1, .ref a2, .int tk, .int ob, .int co, .ref a3, .int rc, .ref a4])), (a1, .inl (c1, 300, .inr (.inl ce))), (a2, .inl (c2, 16, .inl rg)), (a3, .inl (c3, 300, .inl re)), (a4, .inl (c4, 300, .inl np))] H := hP
      have hD : va_D (lz_A s) [(g0, .inr (1, [.int th1, .ref b1, .ref b2, .ref b3, .ref b4, .ref b5, .ref b6, .ref b7, .ref b8, .int om, .int cm, .int tp])), (b1, .inl (e1, 301, .inl kd)), (b2, .inl (e2, 301, .inl zs)), (b3, .inl (e3, 301, .inl od)), (b4, .inl (e4, 12040, .inl lk)), (b5, .inl (e5, 12040, .inr (.inl nu))), (b6, .inl (e6, 301, .inl rb)), (b7, .inl (e7, 16, .inl rm)), (b8, .inl (e8, 301, .inl td)), (oa, .inl (oc, 1, .inr (.inl fo1))), (h0, .inr (0, [.ref a1, .ref a2, .int tk, .int ob, .int co, .ref a3, .int rc, .ref a4])), (a1, .inl (c1, 300, .inr (.inl ce))), (a2, .inl (c2, 16, .inl rg)), (a3, .inl (c3, 300, .inl re)), (a4, .inl (c4, 300, .inl np))] := hD
      have hth := hw
      refine lv_istore hx hb dL_law_159 hl (by decide) rfl (fun ls hl => ?_)
      have hl : lv_has ls 8 [(6, .int r9m), (5, .int 1), (4, .int (nI (5 * n))), (0, .ref b), (1, .ref h0), (2, .ref g0), (3, .ref oa)] := hl
      refine lv_aload_n hx hb dL_law_161 rfl (lv_at hl 5 rfl) ?_
      have hPc := hP.sub (ws' := [(g0, .inr (1, [.int th1, .ref b1, .ref b2, .ref b3, .ref b4, .ref b5, .ref b6, .ref b7, .ref b8, .int om, .int cm, .int tp])), (b1, .inl (e1, 301, .inl kd)), (b2, .inl (e2, 301, .inl zs)), (b3, .inl (e3, 301, .inl od)), (b4, .inl (e4, 12040, .inl lk)), (b5, .inl (e5, 12040, .inr (.inl nu))), (b6, .inl (e6, 301, .inl rb)), (b7, .inl (e7, 16, .inl rm)), (b8, .inl (e8, 301, .inl td))]) [0, 1, 2, 3, 4, 5, 6, 7, 8] rfl
      have hDc := hD.sub (ws' := [(g0, .inr (1, [.int th1, .ref b1, .ref b2, .ref b3, .ref b4, .ref b5, .ref b6, .ref b7, .ref b8, .int om, .int cm, .int tp])), (b1, .inl (e1, 301, .inl kd)), (b2, .inl (e2, 301, .inl zs)), (b3, .inl (e3, 301, .inl od)), (b4, .inl (e4, 12040, .inl lk)), (b5, .inl (e5, 12040, .inr (.inl nu))), (b6, .inl (e6, 301, .inl rb)), (b7, .inl (e7, 16, .inl rm)), (b8, .inl (e8, 301, .inl td))]) [0, 1, 2, 3, 4, 5, 6, 7, 8] (by decide) rfl
      have hKc := hK.sub (tys' := [(e1, .int), (e2, .int), (e3, .int), (e4, .int), (e5, .long), (e6, .boolean), (e7, .int), (e8, .int)]) [0, 1, 2, 3, 4, 5, 6, 7] rfl
      refine W.callR (W.runV (As := []) (rest := []) ⟨hx, hb, hml, hown, hts⟩ (c_X1_thrown l dC dI g0 b1 b2 b3 b4 b5 b6 b7 b8 e1 e2 e3 e4 e5 e6 e7 e8 th1 kd zs od lk nu rb rm td om cm tp _ ) (cwV 0 hts gw_L_59 rfl rfl rfl ⟨rfl, by decide, by decide, by decide +kernel⟩ ⟨Nat.le_of_ble_eq_true rfl, Nat.le_of_ble_eq_true rfl⟩) ⟨hw_blind, va_recv (q0 := 0) (ci := 1) (q := (RX1, TX1, 12)) hKc hPc rfl rfl, hw_pay hPc hKc hDc⟩ rfl rfl hl.1 rfl (lv_room (Nat.le_of_ble_eq_true rfl)) dL_law_162 ⟨by show _ ≤ 1043; omega, by show _ ≤ 34754; omega⟩) ?_
      refine W.eq (g2 := F0 m 165 ls [.int th1]) rfl ?_
      refine hw_topi (y := 1) (hth) ?_
      refine lv_iload hx hb dL_law_165 (lv_at hl 1 rfl) ?_
      refine lv_icmp_eq hx hb dL_law_167 (tgt := 172) (by decide) (fun hc => ?_) (fun hc => ?_)
      · skip
        refine lv_iload hx hb dL_law_172 (lv_at hl 1 rfl) ?_
        refine lv_if_ne hx hb dL_law_174 (tgt := 189) (by decide) (fun hc => ?_) (fun hc => ?_)
        · skip
          refine lv_goto hx hb dL_law_189 (tgt := 729) (by decide) ?_
          refine lv_iinc (k := 2) (v := nI (5 * (n + 1))) hx hb dL_law_729 hl rfl (nI_add (5 * n) 5) (by decide) rfl (fun ls hl => ?_)
          have hl : lv_has ls 8 [(4, .int (nI (5 * (n + 1)))), (6, .int r9m), (5, .int 1), (0, .ref b), (1, .ref h0), (2, .ref g0), (3, .ref oa)] := hl
          refine lv_goto hx hb dL_law_732 (tgt := 23) (by decide) ?_
          refine W.widen (k := 15 + (n + 1)) (n := 26538 + 6 * (n + 1)) (by omega) (by omega) ?_
          exact hN ce rg tk ob co re rc np th1 kd zs od lk nu rb rm td om cm tp fo1 M H locs ls ⟨hW, hC, hQ⟩ hP hD hS (lv_sub hl [0, 3, 4, 5, 6] rfl)
        · exact absurd hc hp_10
      · exact absurd rfl hc

set_option maxHeartbeats 4000000 in
set_option maxRecDepth 100000 in
theorem lc_make1 {p : Program} {l : Launch} {e : Env} {s : State} {m : MethodId} {below : List Frame} {meth : Method} {c : Code} {b L : Nat} {xs : Nat → Int32} {Q : State → Prop} (dC : Nat → ClassId) (dI : Nat → Nat → Nat) (h0 a1 a2 a3 a4 : Nat) (c1 c2 c3 c4 : ClassId) (g0 b1 b2 b3 b4 b5 b6 b7 b8 : Nat) (e1 e2 e3 e4 e5 e6 e7 e8 : ClassId) (oa : Nat) (oc : ClassId) (hx : p.tables.exec = Jvm.exec) (hb : c.code = cL_law) (hml : c.maxLocals = 8) (hown : s.vm.findClass RL = some m.cls) (hts : ∀ w ∈ wb, w.before #[Value.ref b] s = true) (hX : va_X b L xs s s.heap) (hbl : b < s.heap.size) (hl9 : l.stackTraces = false) (hZ : hz_F (lz_A s) s s.heap) (hG : hz_G s) (hK : va_K (dC, dI) vwCl [(e1, .int), (e2, .int), (e3, .int), (e4, .int), (e5, .long), (e6, .boolean), (e7, .int), (e8, .int), (oc, .long), (c1, .long), (c2, .int), (c3, .int), (c4, .int)] s) (hL : L ≤ 2560) (n : Nat) (hn : 5 * n + 5 ≤ L) (ce : Nat → Int64) (rg : Nat → Int32) (tk : Int32) (ob : Int32) (co : Int32) (re : Nat → Int32) (rc : Int32) (np : Nat → Int32) (th : Int32) (kd : Nat → Int32) (zs : Nat → Int32) (od : Nat → Int32) (lk : Nat → Int32) (nu : Nat → Int64) (rb : Nat → Int32) (rm : Nat → Int32) (td : Nat → Int32) (om : Int32) (cm : Int32) (tp : Int32) (fo : Nat → Int64) {H : Heap} {locs : List Loc} {ls : Array Slot} (M : hp_S) (hW : hp_W M) (hC : hp_C M ce rg tk ob co) (hQ : hp_Q M kd zs od lk nu rm om cm) (j n8 : Nat) (hj : j < 16) (hn8 : n8 ≤ 40) (h1 : (xs (5 * n + 1)) = nI j) (h3 : (xs (5 * n + 3)) = nI n8) (hfit : hp_tk (hp_rm M n8) + (1 + n8) ≤ 300) (hP : va_P (dC, dI) vwCl [(g0, .inr (1, [.int th, .ref b1, .ref b2, .ref b3, .ref b4, .ref b5, .ref b6, .ref b7, .ref b8, .int om, .int cm, .int tp])), (b1, .inl (e1, 301, .inl kd)), (b2, .inl (e2, 301, .inl zs)), (b3, .inl (e3, 301, .inl od)), (b4, .inl (e4, 12040, .inl lk)), (b5, .inl (e5, 12040, .inr (.inl nu))), (b6, .inl (e6, 301, .inl rb)), (b7, .inl (e7, 16, .inl rm)), (b8, .inl (e8, 301, .inl td)), (oa, .inl (oc, 1, .inr (.inl fo))), (h0, .inr (0, [.ref a1, .ref a2, .int tk, .int ob, .int co, .ref a3, .int rc, .ref a4])), (a1, .inl (c1, 300, .inr (.inl ce))), (a2, .inl (c2, 16, .inl rg)), (a3, .inl (c3, 300, .inl re)), (a4, .inl (c4, 300, .inl np))] H) (hD : va_D (lz_A s) [(g0, .inr (1, [.int th, .ref b1, .ref b2, .ref b3, .ref b4, .ref b5, .ref b6, .ref b7, .ref b8, .int om, .int cm, .int tp])), (b1, .inl (e1, 301, .inl kd)), (b2, .inl (e2, 301, .inl zs)), (b3, .inl (e3, 301, .inl od)), (b4, .inl (e4, 12040, .inl lk)), (b5, .inl (e5, 12040, .inr (.inl nu))), (b6, .inl (e6, 301, .inl rb)), (b7, .inl (e7, 16, .inl rm)), (b8, .inl (e8, 301, .inl td)), (oa, .inl (oc, 1, .inr (.inl fo))), (h0, .inr (0, [.ref a1, .ref a2, .int tk, .int ob, .int co, .ref a3, .int rc, .ref a4])), (a1, .inl (c1, 300, .inr (.inl ce))), (a2, .inl (c2, 16, .inl rg)), (a3, .inl (c3, 300, .inl re)), (a4, .inl (c4, 300, .inl np))]) (hS : va_S (lz_A s) s.heap H locs) (hl : lv_has ls 8 [(4, .int (nI (5 * n))), (0, .ref b), (1, .ref h0), (2, .ref g0), (3, .ref oa)]) (hN : ∀ (ce : Nat → Int64) (rg : Nat → Int32) (tk : Int32) (ob : Int32) (co : Int32) (re : Nat → Int32) (rc : Int32) (np : Nat → Int32) (th : Int32) (kd : Nat → Int32) (zs : Nat → Int32) (od : Nat → Int32) (lk : Nat → Int32) (nu : Nat → Int64) (rb : Nat → Int32) (rm : Nat → Int32) (td : Nat → Int32) (om : Int32) (cm : Int32) (tp : Int32) (fo : Nat → Int64) (M : hp_S) (H : Heap) (locs : List Loc) (ls : Array Slot), (hp_W M ∧ hp_C M ce rg tk ob co ∧ hp_Q M kd zs od lk nu rm om cm) → va_P (dC, dI) vwCl [(g0, .inr (1, [.int th, .ref b1, .ref b2, .ref b3, .ref b4, .ref b5, .ref b6, .ref b7, .ref b8, .int om, .int cm, .int tp])), (b1, .inl (e1, 301, .inl kd)), (b2, .inl (e2, 301, .inl zs)), (b3, .inl (e3, 301, .inl od)), (b4, .inl (e4, 12040, .inl lk)), (b5, .inl (e5, 12040, .inr (.inl nu))), (b6, .inl (e6, 301, .inl rb)), (b7, .inl (e7, 16, .inl rm)), (b8, .inl (e8, 301, .inl td)), (oa, .inl (oc, 1, .inr (.inl fo))), (h0, .inr (0, [.ref a1, .ref a2, .int tk, .int ob, .int co, .ref a3, .int rc, .ref a4])), (a1, .inl (c1, 300, .inr (.inl ce))), (a2, .inl (c2, 16, .inl rg)), (a3, .inl (c3, 300, .inl re)), (a4, .inl (c4, 300, .inl np))] H → va_D (lz_A s) [(g0, .inr (1, [.int th, .ref b1, .ref b2, .ref b3, .ref b4, .ref b5, .ref b6, .ref b7, .ref b8, .int om, .int cm, .int tp])), (b1, .inl (e1, 301, .inl kd)), (b2, .inl (e2, 301, .inl zs)), (b3, .inl (e3, 301, .inl od)), (b4, .inl (e4, 12040, .inl lk)), (b5, .inl (e5, 12040, .inr (.inl nu))), (b6, .inl (e6, 301, .inl rb)), (b7, .inl (e7, 16, .inl rm)), (b8, .inl (e8, 301, .inl td)), (oa, .inl (oc, 1, .inr (.inl fo))), (h0, .inr (0, [.ref a1, .ref a2, .int tk, .int ob, .int co, .ref a3, .int rc, .ref a4])), (a1, .inl (c1, 300, .inr (.inl ce))), (a2, .inl (c2, 16, .inl rg)), (a3, .inl (c3, 300, .inl re)), (a4, .inl (c4, 300, .inl np))] → va_S (lz_A s) s.heap H locs → lv_has ls 8 [(4, .int (nI (5 * (n + 1)))), (0, .ref b), (1, .ref h0), (2, .ref g0), (3, .ref oa)] → W p l e room_1 s m #[Value.ref b] below meth c H locs (15 + (n + 1)) (26538 + 6 * (n + 1)) Q (F0 m 23 ls [])) : W p l e room_1 s m #[Value.ref b] below meth c H locs (15 + n) (26538 + 6 * n) Q (F0 m 96 ls []) := by
  have hbA : ¬ lz_A s b := Nat.not_le_of_lt hbl
  have hA : ∀ q : Nat, s.heap.size ≤ q → lz_A s q := fun q h => h
  refine lv_aload_n hx hb dL_law_96 rfl (lv_at hl 2 rfl) ?_
  refine lv_aload_n hx hb dL_law_97 rfl (lv_at hl 1 rfl) ?_
  refine lv_iload hx hb dL_law_98 (lv_at hl 0 rfl) ?_
  refine lv_iconst (v := 1) hx hb dL_law_100 (by decide) ?_
  refine lv_iadd hx hb dL_law_101 ?_
  refine hw_sld (j := 5 * n + 1) hx hb hX hbl hbA hS (nI_add (5 * n) 1) (by omega) (by omega) dL_law_102 ?_
  refine hw_topi (y := nI j) (h1) ?_
  refine lv_aload_n hx hb dL_law_103 rfl (lv_at hl 1 rfl) ?_
  refine lv_iload hx hb dL_law_104 (lv_at hl 0 rfl) ?_
  refine lv_iconst (v := 2) hx hb dL_law_106 (by decide) ?_
  refine lv_iadd hx hb dL_law_107 ?_
  refine hw_sld (j := 5 * n + 2) hx hb hX hbl hbA hS (nI_add (5 * n) 2) (by omega) (by omega) dL_law_108 ?_
  refine lv_if_eq hx hb dL_law_109 (tgt := 116) (by decide) (fun hc => ?_) (fun hc => ?_)
  · have hy := hc
    refine lv_iconst (v := 0) hx hb dL_law_116 (by decide) ?_
    refine lv_aload_n hx hb dL_law_117 rfl (lv_at hl 1 rfl) ?_
    refine lv_iload hx hb dL_law_118 (lv_at hl 0 rfl) ?_
    refine lv_iconst (v := 3) hx hb dL_law_120 (by decide) ?_
    refine lv_iadd hx hb dL_law_121 ?_
    refine hw_sld (j := 5 * n + 3) hx hb hX hbl hbA hS (nI_add (5 * n) 3) (by omega) (by omega) dL_law_122 ?_
    refine hw_topi (y := nI n8) (h3) ?_
    refine lv_aload_n hx hb dL_law_123 rfl (lv_at hl 4 rfl) ?_
    have hPc := hP.sub (ws' := [(oa, .inl (oc, 1, .inr (.inl fo))), (h0, .inr (0, [.ref a1, .ref a2, .int tk, .int ob, .int co, .ref a3, .int rc, .ref a4])), (a1, .inl (c1, 300, .inr (.inl ce))), (a2, .inl (c2, 16, .inl rg)), (a3, .inl (c3, 300, .inl re)), (a4, .inl (c4, 300, .inl np))]) [9, 10, 11, 12, 13, 14] rfl
    have hDc := hD.sub (ws' := [(oa, .inl (oc, 1, .inr (.inl fo))), (h0, .inr (0, [.ref a1, .ref a2, .int tk, .int ob, .int co, .ref a3, .int rc, .ref a4])), (a1, .inl (c1, 300, .inr (.inl ce))), (a2, .inl (c2, 16, .inl rg)), (a3, .inl (c3, 300, .inl re)), (a4, .inl (c4, 300, .inl np))]) [9, 10, 11, 12, 13, 14] (by decide) rfl
    have hKc := hK.sub (tys' := [(oc, .long), (c1, .long), (c2, .int), (c3, .int), (c4, .int)]) [8, 9, 10, 11, 12] rfl
    refine hw_calliP (wc := [(oa, .inl (oc, 1, .inr (.inl fo))), (h0, .inr (0, [.ref a1, .ref a2, .int tk, .int ob, .int co, .ref a3, .int rc, .ref a4])), (a1, .inl (c1, 300, .inr (.inl ce))), (a2, .inl (c2, 16, .inl rg)), (a3, .inl (c3, 300, .inl re)), (a4, .inl (c4, 300, .inl np))]) (wr := [(g0, .inr (1, [.int th, .ref b1, .ref b2, .ref b3, .ref b4, .ref b5, .ref b6, .ref b7, .ref b8, .int om, .int cm, .int tp])), (b1, .inl (e1, 301, .inl kd)), (b2, .inl (e2, 301, .inl zs)), (b3, .inl (e3, 301, .inl od)), (b4, .inl (e4, 12040, .inl lk)), (b5, .inl (e5, 12040, .inr (.inl nu))), (b6, .inl (e6, 301, .inl rb)), (b7, .inl (e7, 16, .inl rm)), (b8, .inl (e8, 301, .inl td))]) [9, 10, 11, 12, 13, 14] [0, 1, 2, 3, 4, 5, 6, 7, 8] (vx_runSW (As := [.ref h0, .int (nI j), .int 0, .int (nI n8), .ref oa]) (rest := []) ⟨hx, hb, hml, hown, hts⟩ (w0_make l dC dI h0 a1 a2 a3 a4 c1 c2 c3 c4 oa oc ce rg tk ob co re rc np _ fo hl9 M hW hC j n8 2 0 hj hn8 (Or.inl ⟨rfl, rfl⟩) hfit) (vx_cwSW 5 hts gw_L_53 rfl rfl rfl ⟨by decide, by decide, by decide +kernel⟩ ⟨Nat.le_of_ble_eq_true rfl, Nat.le_of_ble_eq_true rfl⟩) ⟨hv_blind, hv_pay hPc hKc hDc hS hA hZ hG⟩ rfl rfl hl.1 rfl (lv_room (Nat.le_of_ble_eq_true rfl)) dL_law_124 ⟨by show _ ≤ 1043; omega, by show _ ≤ 34754; omega⟩) hP hD hS hA rfl rfl (by decide) (by decide) (fun r9 u9 H locs hw hP hD hS => ?_)
    obtain ⟨fo1, ce1, rg1, tk1, ob1, co1, re1, rc1, np1⟩ := u9
    have hP : va_P (dC, dI) vwCl [(g0, .inr (1, [.int th, .ref b1, .ref b2, .ref b3, .ref b4, .ref b5, .ref b6, .ref b7, .ref b8, .int om, .int cm, .int tp])), (b1, .inl (e1, 301, .inl kd)), (b2, .inl (e2, 301, .inl zs)), (b3, .inl (e3, 301, .inl od)), (b4, .inl (e4, 12040, .inl lk)), (b5, .inl (e5, 12040, .inr (.inl nu))), (b6, .inl (e6, 301, .inl rb)), (b7, .inl (e7, 16, .inl rm)), (b8, .inl (e8, 301, .inl td)), (oa, .inl (oc, 1, .inr (.inl fo1))), (h0, .inr (0, [.ref a1, .ref a2, .int tk1, .int ob1, .int co1, .ref a3, .int rc1, .ref a4])), (a1, .inl (c1, 300, .inr (.inl ce1))), (a2, .inl (c2, 16, .inl rg1)), (a3, .inl (c3, 300, .inl re1)), (a4, .inl (c4, 300, .inl np1))] H := hP
    have hD : va_D (lz_A s) [(g0, .inr (1, [.int th, .ref b1, .ref b2, .ref b3, .ref b4, .ref b5, .ref b6, .ref b7, .ref b8, .int om, .int cm, .int tp])), (b1, .inl (e1, 301, .inl kd)), (b2, .inl (e2, 301, .inl zs)), (b3, .inl (e3, 301, .inl od)), (b4, .inl (e4, 12040, .inl lk)), (b5, .inl (e5, 12040, .inr (.inl nu))), (b6, .inl (e6, 301, .inl rb)), (b7, .inl (e7, 16, .inl rm)), (b8, .inl (e8, 301, .inl td)), (oa, .inl (oc, 1, .inr (.inl fo1))), (h0, .inr (0, [.ref a1, .ref a2, .int tk1, .int ob1, .int co1, .ref a3, .int rc1, .ref a4])), (a1, .inl (c1, 300, .inr (.inl ce1))), (a2, .inl (c2, 16, .inl rg1)), (a3, .inl (c3, 300, .inl re1)), (a4, .inl (c4, 300, .inl np1))] := hD
    obtain ⟨hr9, hfo, hall⟩ := hw
    subst hr9
    dsimp only at hfo hall
    refine lv_istore hx hb dL_law_127 hl (by decide) rfl (fun ls hl => ?_)
    have hl : lv_has ls 8 [(5, .int 0), (4, .int (nI (5 * n))), (0, .ref b), (1, .ref h0), (2, .ref g0), (3, .ref oa)] := hl
    refine lv_aload_n hx hb dL_law_129 rfl (lv_at hl 4 rfl) ?_
    refine lv_aload_n hx hb dL_law_130 rfl (lv_at hl 2 rfl) ?_
    refine lv_iload hx hb dL_law_131 (lv_at hl 1 rfl) ?_
    refine lv_iconst (v := 1) hx hb dL_law_133 (by decide) ?_
    refine lv_iadd hx hb dL_law_134 ?_
    refine hw_sld (j := 5 * n + 1) hx hb hX hbl hbA hS (nI_add (5 * n) 1) (by omega) (by omega) dL_law_135 ?_
    refine hw_topi (y := nI j) (h1) ?_
    refine lv_aload_n hx hb dL_law_136 rfl (lv_at hl 2 rfl) ?_
    refine lv_iload hx hb dL_law_137 (lv_at hl 1 rfl) ?_
    refine lv_iconst (v := 2) hx hb dL_law_139 (by decide) ?_
    refine lv_iadd hx hb dL_law_140 ?_
    refine hw_sld (j := 5 * n + 2) hx hb hX hbl hbA hS (nI_add (5 * n) 2) (by omega) (by omega) dL_law_141 ?_
    refine lv_if_eq hx hb dL_law_142 (tgt := 149) (by decide) (fun hc => ?_) (fun hc => ?_)
    · skip
      refine lv_iconst (v := 0) hx hb dL_law_149 (by decide) ?_
      refine lv_aload_n hx hb dL_law_150 rfl (lv_at hl 2 rfl) ?_
      refine lv_iload hx hb dL_law_151 (lv_at hl 1 rfl) ?_
      refine lv_iconst (v := 3) hx hb dL_law_153 (by decide) ?_
      refine lv_iadd hx hb dL_law_154 ?_
      refine hw_sld (j := 5 * n + 3) hx hb hX hbl hbA hS (nI_add (5 * n) 3) (by omega) (by omega) dL_law_155 ?_
      refine hw_topi (y := nI n8) (h3) ?_
      have hPc := hP.sub (ws' := [(g0, .inr (1, [.int th, .ref b1, .ref b2, .ref b3, .ref b4, .ref b5, .ref b6, .ref b7, .ref b8, .int om, .int cm, .int tp])), (b1, .inl (e1, 301, .inl kd)), (b2, .inl (e2, 301, .inl zs)), (b3, .inl (e3, 301, .inl od)), (b4, .inl (e4, 12040, .inl lk)), (b5, .inl (e5, 12040, .inr (.inl nu))), (b6, .inl (e6, 301, .inl rb)), (b7, .inl (e7, 16, .inl rm)), (b8, .inl (e8, 301, .inl td))]) [0, 1, 2, 3, 4, 5, 6, 7, 8] rfl
      have hDc := hD.sub (ws' := [(g0, .inr (1, [.int th, .ref b1, .ref b2, .ref b3, .ref b4, .ref b5, .ref b6, .ref b7, .ref b8, .int om, .int cm, .int tp])), (b1, .inl (e1, 301, .inl kd)), (b2, .inl (e2, 301, .inl zs)), (b3, .inl (e3, 301, .inl od)), (b4, .inl (e4, 12040, .inl lk)), (b5, .inl (e5, 12040, .inr (.inl nu))), (b6, .inl (e6, 301, .inl rb)), (b7, .inl (e7, 16, .inl rm)), (b8, .inl (e8, 301, .inl td))]) [0, 1, 2, 3, 4, 5, 6, 7, 8] (by decide) rfl
      have hKc := hK.sub (tys' := [(e1, .int), (e2, .int), (e3, .int), (e4, .int), (e5, .long), (e6, .boolean), (e7, .int), (e8, .int)]) [0, 1, 2, 3, 4, 5, 6, 7] rfl
      refine hw_calliP (wc := [(g0, .inr (1, [.int th, .ref b1, .ref b2, .ref b3, .ref b4, .ref b5, .ref b6, .ref b7, .ref b8, .int om, .int cm, .int tp])), (b1, .inl (e1, 301, .inl kd)), (b2, .inl (e2, 301, .inl zs)), (b3, .inl (e3, 301, .inl od)), (b4, .inl (e4, 12040, .inl lk)), (b5, .inl (e5, 12040, .inr (.inl nu))), (b6, .inl (e6, 301, .inl rb)), (b7, .inl (e7, 16, .inl rm)), (b8, .inl (e8, 301, .inl td))]) (wr := [(oa, .inl (oc, 1, .inr (.inl fo1))), (h0, .inr (0, [.ref a1, .ref a2, .int tk1, .int ob1, .int co1, .ref a3, .int rc1, .ref a4])), (a1, .inl (c1, 300, .inr (.inl ce1))), (a2, .inl (c2, 16, .inl rg1)), (a3, .inl (c3, 300, .inl re1)), (a4, .inl (c4, 300, .inl np1))]) [0, 1, 2, 3, 4, 5, 6, 7, 8] [9, 10, 11, 12, 13, 14] (va_runV (As := [.int (nI j), .int 0, .int (nI n8)]) (rest := []) ⟨hx, hb, hml, hown, hts⟩ (c1_X1_make l dC dI g0 b1 b2 b3 b4 b5 b6 b7 b8 e1 e2 e3 e4 e5 e6 e7 e8 th kd zs od lk nu rb rm td om cm tp _ M hW hQ j n8 2 0 hj hn8 (Or.inl ⟨rfl, rfl⟩) hfit) (cwV 3 hts gw_L_58 rfl rfl rfl ⟨rfl, by decide, by decide, by decide +kernel⟩ ⟨Nat.le_of_ble_eq_true rfl, Nat.le_of_ble_eq_true rfl⟩) ⟨hw_blind, va_recv (q0 := 0) (ci := 1) (q := (RX1, TX1, 12)) hKc hPc rfl rfl, hw_pay hPc hKc hDc⟩ rfl rfl hl.1 rfl (lv_room (Nat.le_of_ble_eq_true rfl)) dL_law_156 ⟨by show _ ≤ 1043; omega, by show _ ≤ 34754; omega⟩) hP hD hS hA rfl rfl (by decide) (by decide) (fun r9m u9 H locs hw hP hD hS => ?_)
      obtain ⟨th1, kd1, zs1, od1, lk1, nu1, rb1, rm1, td1, om1, cm1, tp1⟩ := u9
      have hP := hP.sub (ws' := [(g0, .inr (1, [.int th1, .ref b1, .ref b2, .ref b3, .ref b4, .ref b5, .ref b6, .ref b7, .ref b8, .int om1, .int cm1, .int tp1])), (b1, .inl (e1, 301, .inl kd1)), (b2, .inl (e2, 301, .inl zs1)), (b3, .inl (e3, 301, .inl od1)), (b4, .inl (e4, 12040, .inl lk1)), (b5, .inl (e5, 12040, .inr (.inl nu1))), (b6, .inl (e6, 301, .inl rb1)), (b7, .inl (e7, 16, .inl rm1)), (b8, .inl (e8, 301, .inl td1)), (oa, .inl (oc, 1, .inr (.inl fo1))), (h0, .inr (0, [.ref a1, .ref a2, .int tk1, .int ob1, .int co1, .ref a3, .int rc1, .ref a4])), (a1, .inl (c1, 300, .inr (.inl ce1))), (a2, .inl (c2, 16, .inl rg1)), (a3, .inl (c3, 300, .inl re1)), (a4, .inl (c4, 300, .inl np1))]) [6, 7, 8, 9, 10, 11, 12, 13, 14, 0, 1, 2, 3, 4, 5] rfl
      have hD := hD.sub (ws' := [(g0, .inr (1, [.int th1, .ref b1, .ref b2, .ref b3, .ref b4, .ref b5, .ref b6, .ref b7, .ref b8, .int om1, .int cm1, .int tp1])), (b1, .inl (e1, 301, .inl kd1)), (b2, .inl (e2, 301, .inl zs1)), (b3, .inl (e3, 301, .inl od1)), (b4, .inl (e4, 12040, .inl lk1)), (b5, .inl (e5, 12040, .inr (.inl nu1))), (b6, .inl (e6, 301, .inl rb1)), (b7, .inl (e7, 16, .inl rm1)), (b8, .inl (e8, 301, .inl td1)), (oa, .inl (oc, 1, .inr (.inl fo1))), (h0, .inr (0, [.ref a1, .ref a2, .int tk1, .int ob1, .int co1, .ref a3, .int rc1, .ref a4])), (a1, .inl (c1, 300, .inr (.inl ce1))), (a2, .inl (c2, 16, .inl rg1)), (a3, .inl (c3, 300, .inl re1)), (a4, .inl (c4, 300, .inl np1))]) [6, 7, 8, 9, 10, 11, 12, 13, 14, 0, 1, 2, 3, 4, 5] (by decide) rfl
      have hP : va_P (dC, dI) vwCl [(g0, .inr (1, [.int th1, .ref b1, .ref b2, .ref b3, .ref b4, .ref b5, .ref b6, .ref b7, .ref b8, .int om1, .int cm1, .int tp1])), (b1, .inl (e1, 301, .inl kd1)), (b2, .inl (e2, 301, .inl zs1)), (b3, .inl (e3, 301, .inl od1)), (b4, .inl (e4, 12040, .inl lk1)), (b5, .inl (e5, 12040, .inr (.inl nu1))), (b6, .inl (e6, 301, .inl rb1)), (b7, .inl (e7, 16, .inl rm1)), (b8, .inl (e8, 301, .inl td1)), (oa, .inl (oc, 1, .inr (.inl fo1))), (h0, .inr (0, [.ref a1, .ref a2, .int tk1, .int ob1, .int co1, .ref a3, .int rc1, .ref a4])), (a1, .inl (c1, 300, .inr (.inl ce1))), (a2, .inl (c2, 16, .inl rg1)), (a3, .inl (c3, 300, .inl re1)), (a4, .inl (c4, 300, .inl np1))] H := hP
      have hD : va_D (lz_A s) [(g0, .inr (1, [.int th1, .ref b1, .ref b2, .ref b3, .ref b4, .ref b5, .ref b6, .ref b7, .ref b8, .int om1, .int cm1, .int tp1])), (b1, .inl (e1, 301, .inl kd1)), (b2, .inl (e2, 301, .inl zs1)), (b3, .inl (e3, 301, .inl od1)), (b4, .inl (e4, 12040, .inl lk1)), (b5, .inl (e5, 12040, .inr (.inl nu1))), (b6, .inl (e6, 301, .inl rb1)), (b7, .inl (e7, 16, .inl rm1)), (b8, .inl (e8, 301, .inl td1)), (oa, .inl (oc, 1, .inr (.inl fo1))), (h0, .inr (0, [.ref a1, .ref a2, .int tk1, .int ob1, .int co1, .ref a3, .int rc1, .ref a4])), (a1, .inl (c1, 300, .inr (.inl ce1))), (a2, .inl (c2, 16, .inl rg1)), (a3, .inl (c3, 300, .inl re1)), (a4, .inl (c4, 300, .inl np1))] := hD
      obtain ⟨o, ho1, ho2, ho, hrm, hth, hQ1⟩ := hw
      dsimp only at hth hQ1
      refine lv_istore hx hb dL_law_159 hl (by decide) rfl (fun ls hl => ?_)
      have hl : lv_has ls 8 [(6, .int r9m), (5, .int 0), (4, .int (nI (5 * n))), (0, .ref b), (1, .ref h0), (2, .ref g0), (3, .ref oa)] := hl
      refine lv_aload_n hx hb dL_law_161 rfl (lv_at hl 5 rfl) ?_
      have hPc := hP.sub (ws' := [(g0, .inr (1, [.int th1, .ref b1, .ref b2, .ref b3, .ref b4, .ref b5, .ref b6, .ref b7, .ref b8, .int om1, .int cm1, .int tp1])), (b1, .inl (e1, 301, .inl kd1)), (b2, .inl (e2, 301, .inl zs1)), (b3, .inl (e3, 301, .inl od1)), (b4, .inl (e4, 12040, .inl lk1)), (b5, .inl (e5, 12040, .inr (.inl nu1))), (b6, .inl (e6, 301, .inl rb1)), (b7, .inl (e7, 16, .inl rm1)), (b8, .inl (e8, 301, .inl td1))]) [0, 1, 2, 3, 4, 5, 6, 7, 8] rfl
      have hDc := hD.sub (ws' := [(g0, .inr (1, [.int th1, .ref b1, .ref b2, .ref b3, .ref b4, .ref b5, .ref b6, .ref b7, .ref b8, .int om1, .int cm1, .int tp1])), (b1, .inl (e1, 301, .inl kd1)), (b2, .inl (e2, 301, .inl zs1)), (b3, .inl (e3, 301, .inl od1)), (b4, .inl (e4, 12040, .inl lk1)), (b5, .inl (e5, 12040, .inr (.inl nu1))), (b6, .inl (e6, 301, .inl rb1)), (b7, .inl (e7, 16, .inl rm1)), (b8, .inl (e8, 301, .inl td1))]) [0, 1, 2, 3, 4, 5, 6, 7, 8] (by decide) rfl
      have hKc := hK.sub (tys' := [(e1, .int), (e2, .int), (e3, .int), (e4, .int), (e5, .long), (e6, .boolean), (e7, .int), (e8, .int)]) [0, 1, 2, 3, 4, 5, 6, 7] rfl
      refine W.callR (W.runV (As := []) (rest := []) ⟨hx, hb, hml, hown, hts⟩ (c_X1_thrown l dC dI g0 b1 b2 b3 b4 b5 b6 b7 b8 e1 e2 e3 e4 e5 e6 e7 e8 th1 kd1 zs1 od1 lk1 nu1 rb1 rm1 td1 om1 cm1 tp1 _ ) (cwV 0 hts gw_L_59 rfl rfl rfl ⟨rfl, by decide, by decide, by decide +kernel⟩ ⟨Nat.le_of_ble_eq_true rfl, Nat.le_of_ble_eq_true rfl⟩) ⟨hw_blind, va_recv (q0 := 0) (ci := 1) (q := (RX1, TX1, 12)) hKc hPc rfl rfl, hw_pay hPc hKc hDc⟩ rfl rfl hl.1 rfl (lv_room (Nat.le_of_ble_eq_true rfl)) dL_law_162 ⟨by show _ ≤ 1043; omega, by show _ ≤ 34754; omega⟩) ?_
      refine W.eq (g2 := F0 m 165 ls [.int th1]) rfl ?_
      refine hw_topi (y := 0) (hth) ?_
      refine lv_iload hx hb dL_law_165 (lv_at hl 1 rfl) ?_
      refine lv_icmp_eq hx hb dL_law_167 (tgt := 172) (by decide) (fun hc => ?_) (fun hc => ?_)
      · skip
        refine lv_iload hx hb dL_law_172 (lv_at hl 1 rfl) ?_
        refine lv_if_ne hx hb dL_law_174 (tgt := 189) (by decide) (fun hc => ?_) (fun hc => ?_)
        · exact absurd rfl hc
        · skip
          refine lv_aload_n hx hb dL_law_177 rfl (lv_at hl 6 rfl) ?_
          refine lv_iconst (v := 0) hx hb dL_law_178 (by decide) ?_
          refine hw_lald (j := 0) hx hb hK hP 9 8 rfl rfl (nI_0.symm) (by decide) (by decide) dL_law_179 ?_
          refine lv_iload hx hb dL_law_180 (lv_at hl 0 rfl) ?_
          refine lv_i2l hx hb dL_law_182 rfl ?_
          refine W.lcmp hx hb dL_law_183 ?_
          refine W.eq (g2 := F0 m 184 ls [.int (lg_cmp (fo1 0) r9m.toInt64)]) rfl ?_
          refine lv_if_eq hx hb dL_law_184 (tgt := 189) (by decide) (fun hc => ?_) (fun hc => ?_)
          · skip
            refine lv_goto hx hb dL_law_189 (tgt := 729) (by decide) ?_
            refine lv_iinc (k := 2) (v := nI (5 * (n + 1))) hx hb dL_law_729 hl rfl (nI_add (5 * n) 5) (by decide) rfl (fun ls hl => ?_)
            have hl : lv_has ls 8 [(4, .int (nI (5 * (n + 1)))), (6, .int r9m), (5, .int 0), (0, .ref b), (1, .ref h0), (2, .ref g0), (3, .ref oa)] := hl
            refine lv_goto hx hb dL_law_732 (tgt := 23) (by decide) ?_
            refine W.widen (k := 15 + (n + 1)) (n := 26538 + 6 * (n + 1)) (by omega) (by omega) ?_
            exact hN ce1 rg1 tk1 ob1 co1 re1 rc1 np1 th1 kd1 zs1 od1 lk1 nu1 rb1 rm1 td1 om1 cm1 tp1 fo1 (hp_sr (hp_mk (hp_rm M n8) o 2 n8) j o) H locs ls ⟨hp_mks_W (hp_rm_W hW n8) ho ho1 ho2 (by decide) (by decide) hn8 (fun h9 => absurd h9 (by decide)) hfit, hall o ho ho1, hQ1⟩ hP hD hS (lv_sub hl [0, 3, 4, 5, 6] rfl)
          · exact absurd (lz_cmp (by rw [hfo, hrm])) hc
      · exact absurd rfl hc
    · exact absurd hy hc
  · have hy := hc
    refine lv_iconst (v := 1) hx hb dL_law_112 (by decide) ?_
    refine lv_goto hx hb dL_law_113 (tgt := 117) (by decide) ?_
    refine lv_aload_n hx hb dL_law_117 rfl (lv_at hl 1 rfl) ?_
    refine lv_iload hx hb dL_law_118 (lv_at hl 0 rfl) ?_
    refine lv_iconst (v := 3) hx hb dL_law_120 (by decide) ?_
    refine lv_iadd hx hb dL_law_121 ?_
    refine hw_sld (j := 5 * n + 3) hx hb hX hbl hbA hS (nI_add (5 * n) 3) (by omega) (by omega) dL_law_122 ?_
    refine hw_topi (y := nI n8) (h3) ?_
    refine lv_aload_n hx hb dL_law_123 rfl (lv_at hl 4 rfl) ?_
    have hPc := hP.sub (ws' := [(oa, .inl (oc, 1, .inr (.inl fo))), (h0, .inr (0, [.ref a1, .ref a2, .int tk, .int ob, .int co, .ref a3, .int rc, .ref a4])), (a1, .inl (c1, 300, .inr (.inl ce))), (a2, .inl (c2, 16, .inl rg)), (a3, .inl (c3, 300, .inl re)), (a4, .inl (c4, 300, .inl np))]) [9, 10, 11, 12, 13, 14] rfl
    have hDc := hD.sub (ws' := [(oa, .inl (oc, 1, .inr (.inl fo))), (h0, .inr (0, [.ref a1, .ref a2, .int tk, .int ob, .int co, .ref a3, .int rc, .ref a4])), (a1, .inl (c1, 300, .inr (.inl ce))), (a2, .inl (c2, 16, .inl rg)), (a3, .inl (c3, 300, .inl re)), (a4, .inl (c4, 300, .inl np))]) [9, 10, 11, 12, 13, 14] (by decide) rfl
    have hKc := hK.sub (tys' := [(oc, .long), (c1, .long), (c2, .int), (c3, .int), (c4, .int)]) [8, 9, 10, 11, 12] rfl
    refine hw_calliP (wc := [(oa, .inl (oc, 1, .inr (.inl fo))), (h0, .inr (0, [.ref a1, .ref a2, .int tk, .int ob, .int co, .ref a3, .int rc, .ref a4])), (a1, .inl (c1, 300, .inr (.inl ce))), (a2, .inl (c2, 16, .inl rg)), (a3, .inl (c3, 300, .inl re)), (a4, .inl (c4, 300, .inl np))]) (wr := [(g0, .inr (1, [.int th, .ref b1, .ref b2, .ref b3, .ref b4, .ref b5, .ref b6, .ref b7, .ref b8, .int om, .int cm, .int tp])), (b1, .inl (e1, 301, .inl kd)), (b2, .inl (e2, 301, .inl zs)), (b3, .inl (e3, 301, .inl od)), (b4, .inl (e4, 12040, .inl lk)), (b5, .inl (e5, 12040, .inr (.inl nu))), (b6, .inl (e6, 301, .inl rb)), (b7, .inl (e7, 16, .inl rm)), (b8, .inl (e8, 301, .inl td))]) [9, 10, 11, 12, 13, 14] [0, 1, 2, 3, 4, 5, 6, 7, 8] (vx_runSW (As := [.ref h0, .int (nI j), .int 1, .int (nI n8), .ref oa]) (rest := []) ⟨hx, hb, hml, hown, hts⟩ (w0_make l dC dI h0 a1 a2 a3 a4 c1 c2 c3 c4 oa oc ce rg tk ob co re rc np _ fo hl9 M hW hC j n8 1 1 hj hn8 (Or.inr ⟨by decide, rfl⟩) hfit) (vx_cwSW 5 hts gw_L_53 rfl rfl rfl ⟨by decide, by decide, by decide +kernel⟩ ⟨Nat.le_of_ble_eq_true rfl, Nat.le_of_ble_eq_true rfl⟩) ⟨hv_blind, hv_pay hPc hKc hDc hS hA hZ hG⟩ rfl rfl hl.1 rfl (lv_room (Nat.le_of_ble_eq_true rfl)) dL_law_124 ⟨by show _ ≤ 1043; omega, by show _ ≤ 34754; omega⟩) hP hD hS hA rfl rfl (by decide) (by decide) (fun r9 u9 H locs hw hP hD hS => ?_)
    obtain ⟨fo1, ce1, rg1, tk1, ob1, co1, re1, rc1, np1⟩ := u9
    have hP : va_P (dC, dI) vwCl [(g0, .inr (1, [.int th, .ref b1, .ref b2, .ref b3, .ref b4, .ref b5, .ref b6, .ref b7, .ref b8, .int om, .int cm, .int tp])), (b1, .inl (e1, 301, .inl kd)), (b2, .inl (e2, 301, .inl zs)), (b3, .inl (e3, 301, .inl od)), (b4, .inl (e4, 12040, .inl lk)), (b5, .inl (e5, 12040, .inr (.inl nu))), (b6, .inl (e6, 301, .inl rb)), (b7, .inl (e7, 16, .inl rm)), (b8, .inl (e8, 301, .inl td)), (oa, .inl (oc, 1, .inr (.inl fo1))), (h0, .inr (0, [.ref a1, .ref a2, .int tk1, .int ob1, .int co1, .ref a3, .int rc1, .ref a4])), (a1, .inl (c1, 300, .inr (.inl ce1))), (a2, .inl (c2, 16, .inl rg1)), (a3, .inl (c3, 300, .inl re1)), (a4, .inl (c4, 300, .inl np1))] H := hP
    have hD : va_D (lz_A s) [(g0, .inr (1, [.int th, .ref b1, .ref b2, .ref b3, .ref b4, .ref b5, .ref b6, .ref b7, .ref b8, .int om, .int cm, .int tp])), (b1, .inl (e1, 301, .inl kd)), (b2, .inl (e2, 301, .inl zs)), (b3, .inl (e3, 301, .inl od)), (b4, .inl (e4, 12040, .inl lk)), (b5, .inl (e5, 12040, .inr (.inl nu))), (b6, .inl (e6, 301, .inl rb)), (b7, .inl (e7, 16, .inl rm)), (b8, .inl (e8, 301, .inl td)), (oa, .inl (oc, 1, .inr (.inl fo1))), (h0, .inr (0, [.ref a1, .ref a2, .int tk1, .int ob1, .int co1, .ref a3, .int rc1, .ref a4])), (a1, .inl (c1, 300, .inr (.inl ce1))), (a2, .inl (c2, 16, .inl rg1)), (a3, .inl (c3, 300, .inl re1)), (a4, .inl (c4, 300, .inl np1))] := hD
    obtain ⟨hr9, hfo, hall⟩ := hw
    subst hr9
    dsimp only at hfo hall
    refine lv_istore hx hb dL_law_127 hl (by decide) rfl (fun ls hl => ?_)
    have hl : lv_has ls 8 [(5, .int 0), (4, .int (nI (5 * n))), (0, .ref b), (1, .ref h0), (2, .ref g0), (3, .ref oa)] := hl
    refine lv_aload_n hx hb dL_law_129 rfl (lv_at hl 4 rfl) ?_
    refine lv_aload_n hx hb dL_law_130 rfl (lv_at hl 2 rfl) ?_
    refine lv_iload hx hb dL_law_131 (lv_at hl 1 rfl) ?_
    refine lv_iconst (v := 1) hx hb dL_law_133 (by decide) ?_
    refine lv_iadd hx hb dL_law_134 ?_
    refine hw_sld (j := 5 * n + 1) hx hb hX hbl hbA hS (nI_add (5 * n) 1) (by omega) (by omega) dL_law_135 ?_
    refine hw_topi (y := nI j) (h1) ?_
    refine lv_aload_n hx hb dL_law_136 rfl (lv_at hl 2 rfl) ?_
    refine lv_iload hx hb dL_law_137 (lv_at hl 1 rfl) ?_
    refine lv_iconst (v := 2) hx hb dL_law_139 (by decide) ?_
    refine lv_iadd hx hb dL_law_140 ?_
    refine hw_sld (j := 5 * n + 2) hx hb hX hbl hbA hS (nI_add (5 * n) 2) (by omega) (by omega) dL_law_141 ?_
    refine lv_if_eq hx hb dL_law_142 (tgt := 149) (by decide) (fun hc => ?_) (fun hc => ?_)
    · exact absurd hc hy
    · skip
      refine lv_iconst (v := 1) hx hb dL_law_145 (by decide) ?_
      refine lv_goto hx hb dL_law_146 (tgt := 150) (by decide) ?_
      refine lv_aload_n hx hb dL_law_150 rfl (lv_at hl 2 rfl) ?_
      refine lv_iload hx hb dL_law_151 (lv_at hl 1 rfl) ?_
      refine lv_iconst (v := 3) hx hb dL_law_153 (by decide) ?_
      refine lv_iadd hx hb dL_law_154 ?_
      refine hw_sld (j := 5 * n + 3) hx hb hX hbl hbA hS (nI_add (5 * n) 3) (by omega) (by omega) dL_law_155 ?_
      refine hw_topi (y := nI n8) (h3) ?_
      have hPc := hP.sub (ws' := [(g0, .inr (1, [.int th, .ref b1, .ref b2, .ref b3, .ref b4, .ref b5, .ref b6, .ref b7, .ref b8, .int om, .int cm, .int tp])), (b1, .inl (e1, 301, .inl kd)), (b2, .inl (e2, 301, .inl zs)), (b3, .inl (e3, 301, .inl od)), (b4, .inl (e4, 12040, .inl lk)), (b5, .inl (e5, 12040, .inr (.inl nu))), (b6, .inl (e6, 301, .inl rb)), (b7, .inl (e7, 16, .inl rm)), (b8, .inl (e8, 301, .inl td))]) [0, 1, 2, 3, 4, 5, 6, 7, 8] rfl
      have hDc := hD.sub (ws' := [(g0, .inr (1, [.int th, .ref b1, .ref b2, .ref b3, .ref b4, .ref b5, .ref b6, .ref b7, .ref b8, .int om, .int cm, .int tp])), (b1, .inl (e1, 301, .inl kd)), (b2, .inl (e2, 301, .inl zs)), (b3, .inl (e3, 301, .inl od)), (b4, .inl (e4, 12040, .inl lk)), (b5, .inl (e5, 12040, .inr (.inl nu))), (b6, .inl (e6, 301, .inl rb)), (b7, .inl (e7, 16, .inl rm)), (b8, .inl (e8, 301, .inl td))]) [0, 1, 2, 3, 4, 5, 6, 7, 8] (by decide) rfl
      have hKc := hK.sub (tys' := [(e1, .int), (e2, .int), (e3, .int), (e4, .int), (e5, .long), (e6, .boolean), (e7, .int), (e8, .int)]) [0, 1, 2, 3, 4, 5, 6, 7] rfl
      refine hw_calliP (wc := [(g0, .inr (1, [.int th, .ref b1, .ref b2, .ref b3, .ref b4, .ref b5, .ref b6, .ref b7, .ref b8, .int om, .int cm, .int tp])), (b1, .inl (e1, 301, .inl kd)), (b2, .inl (e2, 301, .inl zs)), (b3, .inl (e3, 301, .inl od)), (b4, .inl (e4, 12040, .inl lk)), (b5, .inl (e5, 12040, .inr (.inl nu))), (b6, .inl (e6, 301, .inl rb)), (b7, .inl (e7, 16, .inl rm)), (b8, .inl (e8, 301, .inl td))]) (wr := [(oa, .inl (oc, 1, .inr (.inl fo1))), (h0, .inr (0, [.ref a1, .ref a2, .int tk1, .int ob1, .int co1, .ref a3, .int rc1, .ref a4])), (a1, .inl (c1, 300, .inr (.inl ce1))), (a2, .inl (c2, 16, .inl rg1)), (a3, .inl (c3, 300, .inl re1)), (a4, .inl (c4, 300, .inl np1))]) [0, 1, 2, 3, 4, 5, 6, 7, 8] [9, 10, 11, 12, 13, 14] (va_runV (As := [.int (nI j), .int 1, .int (nI n8)]) (rest := []) ⟨hx, hb, hml, hown, hts⟩ (c1_X1_make l dC dI g0 b1 b2 b3 b4 b5 b6 b7 b8 e1 e2 e3 e4 e5 e6 e7 e8 th kd zs od lk nu rb rm td om cm tp _ M hW hQ j n8 1 1 hj hn8 (Or.inr ⟨by decide, rfl⟩) hfit) (cwV 3 hts gw_L_58 rfl rfl rfl ⟨rfl, by decide, by decide, by decide +kernel⟩ ⟨Nat.le_of_ble_eq_true rfl, Nat.le_of_ble_eq_true rfl⟩) ⟨hw_blind, va_recv (q0 := 0) (ci := 1) (q := (RX1, TX1, 12)) hKc hPc rfl rfl, hw_pay hPc hKc hDc⟩ rfl rfl hl.1 rfl (lv_room (Nat.le_of_ble_eq_true rfl)) dL_law_156 ⟨by show _ ≤ 1043; omega, by show _ ≤ 34754; omega⟩) hP hD hS hA rfl rfl (by decide) (by decide) (fun r9m u9 H locs hw hP hD hS => ?_)
      obtain ⟨th1, kd1, zs1, od1, lk1, nu1, rb1, rm1, td1, om1, cm1, tp1⟩ := u9
      have hP := hP.sub (ws' := [(g0, .inr (1, [.int th1, .ref b1, .ref b2, .ref b3, .ref b4, .ref b5, .ref b6, .ref b7, .ref b8, .int om1, .int cm1, .int tp1])), (b1, .inl (e1, 301, .inl kd1)), (b2, .inl (e2, 301, .inl zs1)), (b3, .inl (e3, 301, .inl od1)), (b4, .inl (e4, 12040, .inl lk1)), (b5, .inl (e5, 12040, .inr (.inl nu1))), (b6, .inl (e6, 301, .inl rb1)), (b7, .inl (e7, 16, .inl rm1)), (b8, .inl (e8, 301, .inl td1)), (oa, .inl (oc, 1, .inr (.inl fo1))), (h0, .inr (0, [.ref a1, .ref a2, .int tk1, .int ob1, .int co1, .ref a3, .int rc1, .ref a4])), (a1, .inl (c1, 300, .inr (.inl ce1))), (a2, .inl (c2, 16, .inl rg1)), (a3, .inl (c3, 300, .inl re1)), (a4, .inl (c4, 300, .inl np1))]) [6, 7, 8, 9, 10, 11, 12, 13, 14, 0, 1, 2, 3, 4, 5] rfl
      have hD := hD.sub (ws' := [(g0, .inr (1, [.int th1, .ref b1, .ref b2, .ref b3, .ref b4, .ref b5, .ref b6, .ref b7, .ref b8, .int om1, .int cm1, .int tp1])), (b1, .inl (e1, 301, .inl kd1)), (b2, .inl (e2, 301, .inl zs1)), (b3, .inl (e3, 301, .inl od1)), (b4, .inl (e4, 12040, .inl lk1)), (b5, .inl (e5, 12040, .inr (.inl nu1))), (b6, .inl (e6, 301, .inl rb1)), (b7, .inl (e7, 16, .inl rm1)), (b8, .inl (e8, 301, .inl td1)), (oa, .inl (oc, 1, .inr (.inl fo1))), (h0, .inr (0, [.ref a1, .ref a2, .int tk1, .int ob1, .int co1, .ref a3, .int rc1, .ref a4])), (a1, .inl (c1, 300, .inr (.inl ce1))), (a2, .inl (c2, 16, .inl rg1)), (a3, .inl (c3, 300, .inl re1)), (a4, .inl (c4, 300, .inl np1))]) [6, 7, 8, 9, 10, 11, 12, 13, 14, 0, 1, 2, 3, 4, 5] (by decide) rfl
      have hP : va_P (dC, dI) vwCl [(g0, .inr (1, [.int th1, .ref b1, .ref b2, .ref b3, .ref b4, .ref b5, .ref b6, .ref b7, .ref b8, .int om1, .int cm1, .int tp1])), (b1, .inl (e1, 301, .inl kd1)), (b2, .inl (e2, 301, .inl zs1)), (b3, .inl (e3, 301, .inl od1)), (b4, .inl (e4, 12040, .inl lk1)), (b5, .inl (e5, 12040, .inr (.inl nu1))), (b6, .inl (e6, 301, .inl rb1)), (b7, .inl (e7, 16, .inl rm1)), (b8, .inl (e8, 301, .inl td1)), (oa, .inl (oc, 1, .inr (.inl fo1))), (h0, .inr (0, [.ref a1, .ref a2, .int tk1, .int ob1, .int co1, .ref a3, .int rc1, .ref a4])), (a1, .inl (c1, 300, .inr (.inl ce1))), (a2, .inl (c2, 16, .inl rg1)), (a3, .inl (c3, 300, .inl re1)), (a4, .inl (c4, 300, .inl np1))] H := hP
      have hD : va_D (lz_A s) [(g0, .inr (1, [.int th1, .ref b1, .ref b2, .ref b3, .ref b4, .ref b5, .ref b6, .ref b7, .ref b8, .int om1, .int cm1, .int tp1])), (b1, .inl (e1, 301, .inl kd1)), (b2, .inl (e2, 301, .inl zs1)), (b3, .inl (e3, 301, .inl od1)), (b4, .inl (e4, 12040, .inl lk1)), (b5, .inl (e5, 12040, .inr (.inl nu1))), (b6, .inl (e6, 301, .inl rb1)), (b7, .inl (e7, 16, .inl rm1)), (b8, .inl (e8, 301, .inl td1)), (oa, .inl (oc, 1, .inr (.inl fo1))), (h0, .inr (0, [.ref a1, .ref a2, .int tk1, .int ob1, .int co1, .ref a3, .int rc1, .ref a4])), (a1, .inl (c1, 300, .inr (.inl ce1))), (a2, .inl (c2, 16, .inl rg1)), (a3, .inl (c3, 300, .inl re1)), (a4, .inl (c4, 300, .inl np1))] := hD
      obtain ⟨o, ho1, ho2, ho, hrm, hth, hQ1⟩ := hw
      dsimp only at hth hQ1
      refine lv_istore hx hb dL_law_159 hl (by decide) rfl (fun ls hl => ?_)
      have hl : lv_has ls 8 [(6, .int r9m), (5, .int 0), (4, .int (nI (5 * n))), (0, .ref b), (1, .ref h0), (2, .ref g0), (3, .ref oa)] := hl
      refine lv_aload_n hx hb dL_law_161 rfl (lv_at hl 5 rfl) ?_
      have hPc := hP.sub (ws' := [(g0, .inr (1, [.int th1, .ref b1, .ref b2, .ref b3, .ref b4, .ref b5, .ref b6, .ref b7, .ref b8, .int om1, .int cm1, .int tp1])), (b1, .inl (e1, 301, .inl kd1)), (b2, .inl (e2, 301, .inl zs1)), (b3, .inl (e3, 301, .inl od1)), (b4, .inl (e4, 12040, .inl lk1)), (b5, .inl (e5, 12040, .inr (.inl nu1))), (b6, .inl (e6, 301, .inl rb1)), (b7, .inl (e7, 16, .inl rm1)), (b8, .inl (e8, 301, .inl td1))]) [0, 1, 2, 3, 4, 5, 6, 7, 8] rfl
      have hDc := hD.sub (ws' := [(g0, .inr (1, [.int th1, .ref b1, .ref b2, .ref b3, .ref b4, .ref b5, .ref b6, .ref b7, .ref b8, .int om1, .int cm1, .int tp1])), (b1, .inl (e1, 301, .inl kd1)), (b2, .inl (e2, 301, .inl zs1)), (b3, .inl (e3, 301, .inl od1)), (b4, .inl (e4, 12040, .inl lk1)), (b5, .inl (e5, 12040, .inr (.inl nu1))), (b6, .inl (e6, 301, .inl rb1)), (b7, .inl (e7, 16, .inl rm1)), (b8, .inl (e8, 301, .inl td1))]) [0, 1, 2, 3, 4, 5, 6, 7, 8] (by decide) rfl
      have hKc := hK.sub (tys' := [(e1, .int), (e2, .int), (e3, .int), (e4, .int), (e5, .long), (e6, .boolean), (e7, .int), (e8, .int)]) [0, 1, 2, 3, 4, 5, 6, 7] rfl
      refine W.callR (W.runV (As := []) (rest := []) ⟨hx, hb, hml, hown, hts⟩ (c_X1_thrown l dC dI g0 b1 b2 b3 b4 b5 b6 b7 b8 e1 e2 e3 e4 e5 e6 e7 e8 th1 kd1 zs1 od1 lk1 nu1 rb1 rm1 td1 om1 cm1 tp1 _ ) (cwV 0 hts gw_L_59 rfl rfl rfl ⟨rfl, by decide, by decide, by decide +kernel⟩ ⟨Nat.le_of_ble_eq_true rfl, Nat.le_of_ble_eq_true rfl⟩) ⟨hw_blind, va_recv (q0 := 0) (ci := 1) (q := (RX1, TX1, 12)) hKc hPc rfl rfl, hw_pay hPc hKc hDc⟩ rfl rfl hl.1 rfl (lv_room (Nat.le_of_ble_eq_true rfl)) dL_law_162 ⟨by show _ ≤ 1043; omega, by show _ ≤ 34754; omega⟩) ?_
      refine W.eq (g2 := F0 m 165 ls [.int th1]) rfl ?_
      refine hw_topi (y := 0) (hth) ?_
      refine lv_iload hx hb dL_law_165 (lv_at hl 1 rfl) ?_
      refine lv_icmp_eq hx hb dL_law_167 (tgt := 172) (by decide) (fun hc => ?_) (fun hc => ?_)
      · skip
        refine lv_iload hx hb dL_law_172 (lv_at hl 1 rfl) ?_
        refine lv_if_ne hx hb dL_law_174 (tgt := 189) (by decide) (fun hc => ?_) (fun hc => ?_)
        · exact absurd rfl hc
        · skip
          refine lv_aload_n hx hb dL_law_177 rfl (lv_at hl 6 rfl) ?_
          refine lv_iconst (v := 0) hx hb dL_law_178 (by decide) ?_
          refine hw_lald (j := 0) hx hb hK hP 9 8 rfl rfl (nI_0.symm) (by decide) (by decide) dL_law_179 ?_
          refine lv_iload hx hb dL_law_180 (lv_at hl 0 rfl) ?_
          refine lv_i2l hx hb dL_law_182 rfl ?_
          refine W.lcmp hx hb dL_law_183 ?_
          refine W.eq (g2 := F0 m 184 ls [.int (lg_cmp (fo1 0) r9m.toInt64)]) rfl ?_
          refine lv_if_eq hx hb dL_law_184 (tgt := 189) (by decide) (fun hc => ?_) (fun hc => ?_)
          · skip
            refine lv_goto hx hb dL_law_189 (tgt := 729) (by decide) ?_
            refine lv_iinc (k := 2) (v := nI (5 * (n + 1))) hx hb dL_law_729 hl rfl (nI_add (5 * n) 5) (by decide) rfl (fun ls hl => ?_)
            have hl : lv_has ls 8 [(4, .int (nI (5 * (n + 1)))), (6, .int r9m), (5, .int 0), (0, .ref b), (1, .ref h0), (2, .ref g0), (3, .ref oa)] := hl
            refine lv_goto hx hb dL_law_732 (tgt := 23) (by decide) ?_
            refine W.widen (k := 15 + (n + 1)) (n := 26538 + 6 * (n + 1)) (by omega) (by omega) ?_
            exact hN ce1 rg1 tk1 ob1 co1 re1 rc1 np1 th1 kd1 zs1 od1 lk1 nu1 rb1 rm1 td1 om1 cm1 tp1 fo1 (hp_sr (hp_mk (hp_rm M n8) o 1 n8) j o) H locs ls ⟨hp_mks_W (hp_rm_W hW n8) ho ho1 ho2 (by decide) (by decide) hn8 (fun h9 => absurd h9 (by decide)) hfit, hall o ho ho1, hQ1⟩ hP hD hS (lv_sub hl [0, 3, 4, 5, 6] rfl)
          · exact absurd (lz_cmp (by rw [hfo, hrm])) hc
      · exact absurd rfl hc

set_option maxHeartbeats 4000000 in
set_option maxRecDepth 100000 in
theorem lc_make2 {p : Program} {l : Launch} {e : Env} {s : State} {m : MethodId} {below : List Frame} {meth : Method} {c : Code} {b L : Nat} {xs : Nat → Int32} {Q : State → Prop} (dC : Nat → ClassId) (dI : Nat → Nat → Nat) (h0 a1 a2 a3 a4 : Nat) (c1 c2 c3 c4 : ClassId) (g0 b1 b2 b3 b4 b5 b6 b7 b8 : Nat) (e1 e2 e3 e4 e5 e6 e7 e8 : ClassId) (oa : Nat) (oc : ClassId) (hx : p.tables.exec = Jvm.exec) (hb : c.code = cL_law) (hml : c.maxLocals = 8) (hown : s.vm.findClass RL = some m.cls) (hts : ∀ w ∈ wb, w.before #[Value.ref b] s = true) (hX : va_X b L xs s s.heap) (hbl : b < s.heap.size) (hl9 : l.stackTraces = false) (hZ : hz_F (lz_A s) s s.heap) (hG : hz_G s) (hK : va_K (dC, dI) vwCl [(e1, .int), (e2, .int), (e3, .int), (e4, .int), (e5, .long), (e6, .boolean), (e7, .int), (e8, .int), (oc, .long), (c1, .long), (c2, .int), (c3, .int), (c4, .int)] s) (hL : L ≤ 2560) (n : Nat) (hn : 5 * n + 5 ≤ L) (ce : Nat → Int64) (rg : Nat → Int32) (tk : Int32) (ob : Int32) (co : Int32) (re : Nat → Int32) (rc : Int32) (np : Nat → Int32) (th : Int32) (kd : Nat → Int32) (zs : Nat → Int32) (od : Nat → Int32) (lk : Nat → Int32) (nu : Nat → Int64) (rb : Nat → Int32) (rm : Nat → Int32) (td : Nat → Int32) (om : Int32) (cm : Int32) (tp : Int32) (fo : Nat → Int64) {H : Heap} {locs : List Loc} {ls : Array Slot} (M : hp_S) (hW : hp_W M) (hC : hp_C M ce rg tk ob co) (hQ : hp_Q M kd zs od lk nu rm om cm) (j n8 : Nat) (hj : j < 16) (hn8 : n8 ≤ 40) (h1 : (xs (5 * n + 1)) = nI j) (h3 : (xs (5 * n + 3)) = nI n8) (hfit : ¬ hp_tk (hp_rm M n8) + (1 + n8) ≤ 300) (hP : va_P (dC, dI) vwCl [(g0, .inr (1, [.int th, .ref b1, .ref b2, .ref b3, .ref b4, .ref b5, .ref b6, .ref b7, .ref b8, .int om, .int cm, .int tp])), (b1, .inl (e1, 301, .inl kd)), (b2, .inl (e2, 301, .inl zs)), (b3, .inl (e3, 301, .inl od)), (b4, .inl (e4, 12040, .inl lk)), (b5, .inl (e5, 12040, .inr (.inl nu))), (b6, .inl (e6, 301, .inl rb)), (b7, .inl (e7, 16, .inl rm)), (b8, .inl (e8, 301, .inl td)), (oa, .inl (oc, 1, .inr (.inl fo))), (h0, .inr (0, [.ref a1, .ref a2, .int tk, .int ob, .int co, .ref a3, .int rc, .ref a4])), (a1, .inl (c1, 300, .inr (.inl ce))), (a2, .inl (c2, 16, .inl rg)), (a3, .inl (c3, 300, .inl re)), (a4, .inl (c4, 300, .inl np))] H) (hD : va_D (lz_A s) [(g0, .inr (1, [.int th, .ref b1, .ref b2, .ref b3, .ref b4, .ref b5, .ref b6, .ref b7, .ref b8, .int om, .int cm, .int tp])), (b1, .inl (e1, 301, .inl kd)), (b2, .inl (e2, 301, .inl zs)), (b3, .inl (e3, 301, .inl od)), (b4, .inl (e4, 12040, .inl lk)), (b5, .inl (e5, 12040, .inr (.inl nu))), (b6, .inl (e6, 301, .inl rb)), (b7, .inl (e7, 16, .inl rm)), (b8, .inl (e8, 301, .inl td)), (oa, .inl (oc, 1, .inr (.inl fo))), (h0, .inr (0, [.ref a1, .ref a2, .int tk, .int ob, .int co, .ref a3, .int rc, .ref a4])), (a1, .inl (c1, 300, .inr (.inl ce))), (a2, .inl (c2, 16, .inl rg)), (a3, .inl (c3, 300, .inl re)), (a4, .inl (c4, 300, .inl np))]) (hS : va_S (lz_A s) s.heap H locs) (hl : lv_has ls 8 [(4, .int (nI (5 * n))), (0, .ref b), (1, .ref h0), (2, .ref g0), (3, .ref oa)]) (hN : ∀ (ce : Nat → Int64) (rg : Nat → Int32) (tk : Int32) (ob : Int32) (co : Int32) (re : Nat → Int32) (rc : Int32) (np : Nat → Int32) (th : Int32) (kd : Nat → Int32) (zs : Nat → Int32) (od : Nat → Int32) (lk : Nat → Int32) (nu : Nat → Int64) (rb : Nat → Int32) (rm : Nat → Int32) (td : Nat → Int32) (om : Int32) (cm : Int32) (tp : Int32) (fo : Nat → Int64) (M : hp_S) (H : Heap) (locs : List Loc) (ls : Array Slot), (hp_W M ∧ hp_C M ce rg tk ob co ∧ hp_Q M kd zs od lk nu rm om cm) → va_P (dC, dI) vwCl [(g0, .inr (1, [.int th, .ref b1, .ref b2, .ref b3, .ref b4, .ref b5, .ref b6, .ref b7, .ref b8, .int om, .int cm, .int tp])), (b1, .inl (e1, 301, .inl kd)), (b2, .inl (e2, 301, .inl zs)), (b3, .inl (e3, 301, .inl od)), (b4, .inl (e4, 12040, .inl lk)), (b5, .inl (e5, 12040, .inr (.inl nu))), (b6, .inl (e6, 301, .inl rb)), (b7, .inl (e7, 16, .inl rm)), (b8, .inl (e8, 301, .inl td)), (oa, .inl (oc, 1, .inr (.inl fo))), (h0, .inr (0, [.ref a1, .ref a2, .int tk, .int ob, .int co, .ref a3, .int rc, .ref a4])), (a1, .inl (c1, 300, .inr (.inl ce))), (a2, .inl (c2, 16, .inl rg)), (a3, .inl (c3, 300, .inl re)), (a4, .inl (c4, 300, .inl np))] H → va_D (lz_A s) [(g0, .inr (1, [.int th, .ref b1, .ref b2, .ref b3, .ref b4, .ref b5, .ref b6, .ref b7, .ref b8, .int om, .int cm, .int tp])), (b1, .inl (e1, 301, .inl kd)), (b2, .inl (e2, 301, .inl zs)), (b3, .inl (e3, 301, .inl od)), (b4, .inl (e4, 12040, .inl lk)), (b5, .inl (e5, 12040, .inr (.inl nu))), (b6, .inl (e6, 301, .inl rb)), (b7, .inl (e7, 16, .inl rm)), (b8, .inl (e8, 301, .inl td)), (oa, .inl (oc, 1, .inr (.inl fo))), (h0, .inr (0, [.ref a1, .ref a2, .int tk, .int ob, .int co, .ref a3, .int rc, .ref a4])), (a1, .inl (c1, 300, .inr (.inl ce))), (a2, .inl (c2, 16, .inl rg)), (a3, .inl (c3, 300, .inl re)), (a4, .inl (c4, 300, .inl np))] → va_S (lz_A s) s.heap H locs → lv_has ls 8 [(4, .int (nI (5 * (n + 1)))), (0, .ref b), (1, .ref h0), (2, .ref g0), (3, .ref oa)] → W p l e room_1 s m #[Value.ref b] below meth c H locs (15 + (n + 1)) (26538 + 6 * (n + 1)) Q (F0 m 23 ls [])) : W p l e room_1 s m #[Value.ref b] below meth c H locs (15 + n) (26538 + 6 * n) Q (F0 m 96 ls []) := by
  have hbA : ¬ lz_A s b := Nat.not_le_of_lt hbl
  have hA : ∀ q : Nat, s.heap.size ≤ q → lz_A s q := fun q h => h
  refine lv_aload_n hx hb dL_law_96 rfl (lv_at hl 2 rfl) ?_
  refine lv_aload_n hx hb dL_law_97 rfl (lv_at hl 1 rfl) ?_
  refine lv_iload hx hb dL_law_98 (lv_at hl 0 rfl) ?_
  refine lv_iconst (v := 1) hx hb dL_law_100 (by decide) ?_
  refine lv_iadd hx hb dL_law_101 ?_
  refine hw_sld (j := 5 * n + 1) hx hb hX hbl hbA hS (nI_add (5 * n) 1) (by omega) (by omega) dL_law_102 ?_
  refine hw_topi (y := nI j) (h1) ?_
  refine lv_aload_n hx hb dL_law_103 rfl (lv_at hl 1 rfl) ?_
  refine lv_iload hx hb dL_law_104 (lv_at hl 0 rfl) ?_
  refine lv_iconst (v := 2) hx hb dL_law_106 (by decide) ?_
  refine lv_iadd hx hb dL_law_107 ?_
  refine hw_sld (j := 5 * n + 2) hx hb hX hbl hbA hS (nI_add (5 * n) 2) (by omega) (by omega) dL_law_108 ?_
  refine lv_if_eq hx hb dL_law_109 (tgt := 116) (by decide) (fun hc => ?_) (fun hc => ?_)
  · have hy := hc
    refine lv_iconst (v := 0) hx hb dL_law_116 (by decide) ?_
    refine lv_aload_n hx hb dL_law_117 rfl (lv_at hl 1 rfl) ?_
    refine lv_iload hx hb dL_law_118 (lv_at hl 0 rfl) ?_
    refine lv_iconst (v := 3) hx hb dL_law_120 (by decide) ?_
    refine lv_iadd hx hb dL_law_121 ?_
    refine hw_sld (j := 5 * n + 3) hx hb hX hbl hbA hS (nI_add (5 * n) 3) (by omega) (by omega) dL_law_122 ?_
    refine hw_topi (y := nI n8) (h3) ?_
    refine lv_aload_n hx hb dL_law_123 rfl (lv_at hl 4 rfl) ?_
    have hPc := hP.sub (ws' := [(oa, .inl (oc, 1, .inr (.inl fo))), (h0, .inr (0, [.ref a1, .ref a2, .int tk, .int ob, .int co, .ref a3, .int rc, .ref a4])), (a1, .inl (c1, 300, .inr (.inl ce))), (a2, .inl (c2, 16, .inl rg)), (a3, .inl (c3, 300, .inl re)), (a4, .inl (c4, 300, .inl np))]) [9, 10, 11, 12, 13, 14] rfl
    have hDc := hD.sub (ws' := [(oa, .inl (oc, 1, .inr (.inl fo))), (h0, .inr (0, [.ref a1, .ref a2, .int tk, .int ob, .int co, .ref a3, .int rc, .ref a4])), (a1, .inl (c1, 300, .inr (.inl ce))), (a2, .inl (c2, 16, .inl rg)), (a3, .inl (c3, 300, .inl re)), (a4, .inl (c4, 300, .inl np))]) [9, 10, 11, 12, 13, 14] (by decide) rfl
    have hKc := hK.sub (tys' := [(oc, .long), (c1, .long), (c2, .int), (c3, .int), (c4, .int)]) [8, 9, 10, 11, 12] rfl
    refine hw_calliP (wc := [(oa, .inl (oc, 1, .inr (.inl fo))), (h0, .inr (0, [.ref a1, .ref a2, .int tk, .int ob, .int co, .ref a3, .int rc, .ref a4])), (a1, .inl (c1, 300, .inr (.inl ce))), (a2, .inl (c2, 16, .inl rg)), (a3, .inl (c3, 300, .inl re)), (a4, .inl (c4, 300, .inl np))]) (wr := [(g0, .inr (1, [.int th, .ref b1, .ref b2, .ref b3, .ref b4, .ref b5, .ref b6, .ref b7, .ref b8, .int om, .int cm, .int tp])), (b1, .inl (e1, 301, .inl kd)), (b2, .inl (e2, 301, .inl zs)), (b3, .inl (e3, 301, .inl od)), (b4, .inl (e4, 12040, .inl lk)), (b5, .inl (e5, 12040, .inr (.inl nu))), (b6, .inl (e6, 301, .inl rb)), (b7, .inl (e7, 16, .inl rm)), (b8, .inl (e8, 301, .inl td))]) [9, 10, 11, 12, 13, 14] [0, 1, 2, 3, 4, 5, 6, 7, 8] (vx_runSW (As := [.ref h0, .int (nI j), .int 0, .int (nI n8), .ref oa]) (rest := []) ⟨hx, hb, hml, hown, hts⟩ (w2_make l dC dI h0 a1 a2 a3 a4 c1 c2 c3 c4 oa oc ce rg tk ob co re rc np _ fo hl9 M hW hC j n8 2 0 hj hn8 (Or.inl ⟨rfl, rfl⟩) hfit) (vx_cwSW 5 hts gw_L_53 rfl rfl rfl ⟨by decide, by decide, by decide +kernel⟩ ⟨Nat.le_of_ble_eq_true rfl, Nat.le_of_ble_eq_true rfl⟩) ⟨hv_blind, hv_pay hPc hKc hDc hS hA hZ hG⟩ rfl rfl hl.1 rfl (lv_room (Nat.le_of_ble_eq_true rfl)) dL_law_124 ⟨by show _ ≤ 1043; omega, by show _ ≤ 34754; omega⟩) hP hD hS hA rfl rfl (by decide) (by decide) (fun r9 u9 H locs hw hP hD hS => ?_)
    obtain ⟨fo1, ce1, rg1, tk1, ob1, co1, re1, rc1, np1⟩ := u9
    have hP : va_P (dC, dI) vwCl [(g0, .inr (1, [.int th, .ref b1, .ref b2, .ref b3, .ref b4, .ref b5, .ref b6, .ref b7, .ref b8, .int om, .int cm, .int tp])), (b1, .inl (e1, 301, .inl kd)), (b2, .inl (e2, 301, .inl zs)), (b3, .inl (e3, 301, .inl od)), (b4, .inl (e4, 12040, .inl lk)), (b5, .inl (e5, 12040, .inr (.inl nu))), (b6, .inl (e6, 301, .inl rb)), (b7, .inl (e7, 16, .inl rm)), (b8, .inl (e8, 301, .inl td)), (oa, .inl (oc, 1, .inr (.inl fo1))), (h0, .inr (0, [.ref a1, .ref a2, .int tk1, .int ob1, .int co1, .ref a3, .int rc1, .ref a4])), (a1, .inl (c1, 300, .inr (.inl ce1))), (a2, .inl (c2, 16, .inl rg1)), (a3, .inl (c3, 300, .inl re1)), (a4, .inl (c4, 300, .inl np1))] H := hP
    have hD : va_D (lz_A s) [(g0, .inr (1, [.int th, .ref b1, .ref b2, .ref b3, .ref b4, .ref b5, .ref b6, .ref b7, .ref b8, .int om, .int cm, .int tp])), (b1, .inl (e1, 301, .inl kd)), (b2, .inl (e2, 301, .inl zs)), (b3, .inl (e3, 301, .inl od)), (b4, .inl (e4, 12040, .inl lk)), (b5, .inl (e5, 12040, .inr (.inl nu))), (b6, .inl (e6, 301, .inl rb)), (b7, .inl (e7, 16, .inl rm)), (b8, .inl (e8, 301, .inl td)), (oa, .inl (oc, 1, .inr (.inl fo1))), (h0, .inr (0, [.ref a1, .ref a2, .int tk1, .int ob1, .int co1, .ref a3, .int rc1, .ref a4])), (a1, .inl (c1, 300, .inr (.inl ce1))), (a2, .inl (c2, 16, .inl rg1)), (a3, .inl (c3, 300, .inl re1)), (a4, .inl (c4, 300, .inl np1))] := hD
    obtain ⟨hr9, hC1⟩ := hw
    subst hr9
    dsimp only at hC1
    refine lv_istore hx hb dL_law_127 hl (by decide) rfl (fun ls hl => ?_)
    have hl : lv_has ls 8 [(5, .int 2), (4, .int (nI (5 * n))), (0, .ref b), (1, .ref h0), (2, .ref g0), (3, .ref oa)] := hl
    refine lv_aload_n hx hb dL_law_129 rfl (lv_at hl 4 rfl) ?_
    refine lv_aload_n hx hb dL_law_130 rfl (lv_at hl 2 rfl) ?_
    refine lv_iload hx hb dL_law_131 (lv_at hl 1 rfl) ?_
    refine lv_iconst (v := 1) hx hb dL_law_133 (by decide) ?_
    refine lv_iadd hx hb dL_law_134 ?_
    refine hw_sld (j := 5 * n + 1) hx hb hX hbl hbA hS (nI_add (5 * n) 1) (by omega) (by omega) dL_law_135 ?_
    refine hw_topi (y := nI j) (h1) ?_
    refine lv_aload_n hx hb dL_law_136 rfl (lv_at hl 2 rfl) ?_
    refine lv_iload hx hb dL_law_137 (lv_at hl 1 rfl) ?_
    refine lv_iconst (v := 2) hx hb dL_law_139 (by decide) ?_
    refine lv_iadd hx hb dL_law_140 ?_
    refine hw_sld (j := 5 * n + 2) hx hb hX hbl hbA hS (nI_add (5 * n) 2) (by omega) (by omega) dL_law_141 ?_
    refine lv_if_eq hx hb dL_law_142 (tgt := 149) (by decide) (fun hc => ?_) (fun hc => ?_)
    · skip
      refine lv_iconst (v := 0) hx hb dL_law_149 (by decide) ?_
      refine lv_aload_n hx hb dL_law_150 rfl (lv_at hl 2 rfl) ?_
      refine lv_iload hx hb dL_law_151 (lv_at hl 1 rfl) ?_
      refine lv_iconst (v := 3) hx hb dL_law_153 (by decide) ?_
      refine lv_iadd hx hb dL_law_154 ?_
      refine hw_sld (j := 5 * n + 3) hx hb hX hbl hbA hS (nI_add (5 * n) 3) (by omega) (by omega) dL_law_155 ?_
      refine hw_topi (y := nI n8) (h3) ?_
      have hPc := hP.sub (ws' := [(g0, .inr (1, [.int th, .ref b1, .ref b2, .ref b3, .ref b4, .ref b5, .ref b6, .ref b7, .ref b8, .int om, .int cm, .int tp])), (b1, .inl (e1, 301, .inl kd)), (b2, .inl (e2, 301, .inl zs)), (b3, .inl (e3, 301, .inl od)), (b4, .inl (e4, 12040, .inl lk)), (b5, .inl (e5, 12040, .inr (.inl nu))), (b6, .inl (e6, 301, .inl rb)), (b7, .inl (e7, 16, .inl rm)), (b8, .inl (e8, 301, .inl td))]) [0, 1, 2, 3, 4, 5, 6, 7, 8] rfl
      have hDc := hD.sub (ws' := [(g0, .inr (1, [.int th, .ref b1, .ref b2, .ref b3, .ref b4, .ref b5, .ref b6, .ref b7, .ref b8, .int om, .int cm, .int tp])), (b1, .inl (e1, 301, .inl kd)), (b2, .inl (e2, 301, .inl zs)), (b3, .inl (e3, 301, .inl od)), (b4, .inl (e4, 12040, .inl lk)), (b5, .inl (e5, 12040, .inr (.inl nu))), (b6, .inl (e6, 301, .inl rb)), (b7, .inl (e7, 16, .inl rm)), (b8, .inl (e8, 301, .inl td))]) [0, 1, 2, 3, 4, 5, 6, 7, 8] (by decide) rfl
      have hKc := hK.sub (tys' := [(e1, .int), (e2, .int), (e3, .int), (e4, .int), (e5, .long), (e6, .boolean), (e7, .int), (e8, .int)]) [0, 1, 2, 3, 4, 5, 6, 7] rfl
      refine hw_calliP (wc := [(g0, .inr (1, [.int th, .ref b1, .ref b2, .ref b3, .ref b4, .ref b5, .ref b6, .ref b7, .ref b8, .int om, .int cm, .int tp])), (b1, .inl (e1, 301, .inl kd)), (b2, .inl (e2, 301, .inl zs)), (b3, .inl (e3, 301, .inl od)), (b4, .inl (e4, 12040, .inl lk)), (b5, .inl (e5, 12040, .inr (.inl nu))), (b6, .inl (e6, 301, .inl rb)), (b7, .inl (e7, 16, .inl rm)), (b8, .inl (e8, 301, .inl td))]) (wr := [(oa, .inl (oc, 1, .inr (.inl fo1))), (h0, .inr (0, [.ref a1, .ref a2, .int tk1, .int ob1, .int co1, .ref a3, .int rc1, .ref a4])), (a1, .inl (c1, 300, .inr (.inl ce1))), (a2, .inl (c2, 16, .inl rg1)), (a3, .inl (c3, 300, .inl re1)), (a4, .inl (c4, 300, .inl np1))]) [0, 1, 2, 3, 4, 5, 6, 7, 8] [9, 10, 11, 12, 13, 14] (va_runV (As := [.int (nI j), .int 0, .int (nI n8)]) (rest := []) ⟨hx, hb, hml, hown, hts⟩ (c2_X1_make l dC dI g0 b1 b2 b3 b4 b5 b6 b7 b8 e1 e2 e3 e4 e5 e6 e7 e8 th kd zs od lk nu rb rm td om cm tp _ M hW hQ j n8 2 0 hj hn8 (Or.inl ⟨rfl, rfl⟩) hfit) (cwV 3 hts gw_L_58 rfl rfl rfl ⟨rfl, by decide, by decide, by decide +kernel⟩ ⟨Nat.le_of_ble_eq_true rfl, Nat.le_of_ble_eq_true rfl⟩) ⟨hw_blind, va_recv (q0 := 0) (ci := 1) (q := (RX1, TX1, 12)) hKc hPc rfl rfl, hw_pay hPc hKc hDc⟩ rfl rfl hl.1 rfl (lv_room (Nat.le_of_ble_eq_true rfl)) dL_law_156 ⟨by show _ ≤ 1043; omega, by show _ ≤ 34754; omega⟩) hP hD hS hA rfl rfl (by decide) (by decide) (fun r9m u9 H locs hw hP hD hS => ?_)
      obtain ⟨th1, kd1, zs1, od1, lk1, nu1, rb1, rm1, td1, om1, cm1, tp1⟩ := u9
      have hP := hP.sub (ws' := [(g0, .inr (1, [.int th1, .ref b1, .ref b2, .ref b3, .ref b4, .ref b5, .ref b6, .ref b7, .ref b8, .int om1, .int cm1, .int tp1])), (b1, .inl (e1, 301, .inl kd1)), (b2, .inl (e2, 301, .inl zs1)), (b3, .inl (e3, 301, .inl od1)), (b4, .inl (e4, 12040, .inl lk1)), (b5, .inl (e5, 12040, .inr (.inl nu1))), (b6, .inl (e6, 301, .inl rb1)), (b7, .inl (e7, 16, .inl rm1)), (b8, .inl (e8, 301, .inl td1)), (oa, .inl (oc, 1, .inr (.inl fo1))), (h0, .inr (0, [.ref a1, .ref a2, .int tk1, .int ob1, .int co1, .ref a3, .int rc1, .ref a4])), (a1, .inl (c1, 300, .inr (.inl ce1))), (a2, .inl (c2, 16, .inl rg1)), (a3, .inl (c3, 300, .inl re1)), (a4, .inl (c4, 300, .inl np1))]) [6, 7, 8, 9, 10, 11, 12, 13, 14, 0, 1, 2, 3, 4, 5] rfl
      have hD := hD.sub (ws' := [(g0, .inr (1, [.int th1, .ref b1, .ref b2, .ref b3, .ref b4, .ref b5, .ref b6, .ref b7, .ref b8, .int om1, .int cm1, .int tp1])), (b1, .inl (e1, 301, .inl kd1)), (b2, .inl (e2, 301, .inl zs1)), (b3, .inl (e3, 301, .inl od1)), (b4, .inl (e4, 12040, .inl lk1)), (b5, .inl (e5, 12040, .inr (.inl nu1))), (b6, .inl (e6, 301, .inl rb1)), (b7, .inl (e7, 16, .inl rm1)), (b8, .inl (e8, 301, .inl td1)), (oa, .inl (oc, 1, .inr (.inl fo1))), (h0, .inr (0, [.ref a1, .ref a2, .int tk1, .int ob1, .int co1, .ref a3, .int rc1, .ref a4])), (a1, .inl (c1, 300, .inr (.inl ce1))), (a2, .inl (c2, 16, .inl rg1)), (a3, .inl (c3, 300, .inl re1)), (a4, .inl (c4, 300, .inl np1))]) [6, 7, 8, 9, 10, 11, 12, 13, 14, 0, 1, 2, 3, 4, 5] (by decide) rfl
      have hP : va_P (dC, dI) vwCl [(g0, .inr (1, [.int th1, .ref b1, .ref b2, .ref b3, .ref b4, .ref b5, .ref b6, .ref b7, .ref b8, .int om1, .int cm1, .int tp1])), (b1, .inl (e1, 301, .inl kd1)), (b2, .inl (e2, 301, .inl zs1)), (b3, .inl (e3, 301, .inl od1)), (b4, .inl (e4, 12040, .inl lk1)), (b5, .inl (e5, 12040, .inr (.inl nu1))), (b6, .inl (e6, 301, .inl rb1)), (b7, .inl (e7, 16, .inl rm1)), (b8, .inl (e8, 301, .inl td1)), (oa, .inl (oc, 1, .inr (.inl fo1))), (h0, .inr (0, [.ref a1, .ref a2, .int tk1, .int ob1, .int co1, .ref a3, .int rc1, .ref a4])), (a1, .inl (c1, 300, .inr (.inl ce1))), (a2, .inl (c2, 16, .inl rg1)), (a3, .inl (c3, 300, .inl re1)), (a4, .inl (c4, 300, .inl np1))] H := hP
      have hD : va_D (lz_A s) [(g0, .inr (1, [.int th1, .ref b1, .ref b2, .ref b3, .ref b4, .ref b5, .ref b6, .ref b7, .ref b8, .int om1, .int cm1, .int tp1])), (b1, .inl (e1, 301, .inl kd1)), (b2, .inl (e2, 301, .inl zs1)), (b3, .inl (e3, 301, .inl od1)), (b4, .inl (e4, 12040, .inl lk1)), (b5, .inl (e5, 12040, .inr (.inl nu1))), (b6, .inl (e6, 301, .inl rb1)), (b7, .inl (e7, 16, .inl rm1)), (b8, .inl (e8, 301, .inl td1)), (oa, .inl (oc, 1, .inr (.inl fo1))), (h0, .inr (0, [.ref a1, .ref a2, .int tk1, .int ob1, .int co1, .ref a3, .int rc1, .ref a4])), (a1, .inl (c1, 300, .inr (.inl ce1))), (a2, .inl (c2, 16, .inl rg1)), (a3, .inl (c3, 300, .inl re1)), (a4, .inl (c4, 300, .inl np1))] := hD
      obtain ⟨hth, hQ1⟩ := hw
      dsimp only at hth hQ1
      refine lv_istore hx hb dL_law_159 hl (by decide) rfl (fun ls hl => ?_)
      have hl : lv_has ls 8 [(6, .int r9m), (5, .int 2), (4, .int (nI (5 * n))), (0, .ref b), (1, .ref h0), (2, .ref g0), (3, .ref oa)] := hl
      refine lv_aload_n hx hb dL_law_161 rfl (lv_at hl 5 rfl) ?_
      have hPc := hP.sub (ws' := [(g0, .inr (1, [.int th1, .ref b1, .ref b2, .ref b3, .ref b4, .ref b5, .ref b6, .ref b7, .ref b8, .int om1, .int cm1, .int tp1])), (b1, .inl (e1, 301, .inl kd1)), (b2, .inl (e2, 301, .inl zs1)), (b3, .inl (e3, 301, .inl od1)), (b4, .inl (e4, 12040, .inl lk1)), (b5, .inl (e5, 12040, .inr (.inl nu1))), (b6, .inl (e6, 301, .inl rb1)), (b7, .inl (e7, 16, .inl rm1)), (b8, .inl (e8, 301, .inl td1))]) [0, 1, 2, 3, 4, 5, 6, 7, 8] rfl
      have hDc := hD.sub (ws' := [(g0, .inr (1, [.int th1, .ref b1, .ref b2, .ref b3, .ref b4, .ref b5, .ref b6, .ref b7, .ref b8, .int om1, .int cm1, .int tp1])), (b1, .inl (e1, 301, .inl kd1)), (b2, .inl (e2, 301, .inl zs1)), (b3, .inl (e3, 301, .inl od1)), (b4, .inl (e4, 12040, .inl lk1)), (b5, .inl (e5, 12040, .inr (.inl nu1))), (b6, .inl (e6, 301, .inl rb1)), (b7, .inl (e7, 16, .inl rm1)), (b8, .inl (e8, 301, .inl td1))]) [0, 1, 2, 3, 4, 5, 6, 7, 8] (by decide) rfl
      have hKc := hK.sub (tys' := [(e1, .int), (e2, .int), (e3, .int), (e4, .int), (e5, .long), (e6, .boolean), (e7, .int), (e8, .int)]) [0, 1, 2, 3, 4, 5, 6, 7] rfl
      refine W.callR (W.runV (As := []) (rest := []) ⟨hx, hb, hml, hown, hts⟩ (c_X1_thrown l dC dI g0 b1 b2 b3 b4 b5 b6 b7 b8 e1 e2 e3 e4 e5 e6 e7 e8 th1 kd1 zs1 od1 lk1 nu1 rb1 rm1 td1 om1 cm1 tp1 _ ) (cwV 0 hts gw_L_59 rfl rfl rfl ⟨rfl, by decide, by decide, by decide +kernel⟩ ⟨Nat.le_of_ble_eq_true rfl, Nat.le_of_ble_eq_true rfl⟩) ⟨hw_blind, va_recv (q0 := 0) (ci := 1) (q := (RX1, TX1, 12)) hKc hPc rfl rfl, hw_pay hPc hKc hDc⟩ rfl rfl hl.1 rfl (lv_room (Nat.le_of_ble_eq_true rfl)) dL_law_162 ⟨by show _ ≤ 1043; omega, by show _ ≤ 34754; omega⟩) ?_
      refine W.eq (g2 := F0 m 165 ls [.int th1]) rfl ?_
      refine hw_topi (y := 2) (hth) ?_
      refine lv_iload hx hb dL_law_165 (lv_at hl 1 rfl) ?_
      refine lv_icmp_eq hx hb dL_law_167 (tgt := 172) (by decide) (fun hc => ?_) (fun hc => ?_)
      · skip
        refine lv_iload hx hb dL_law_172 (lv_at hl 1 rfl) ?_
        refine lv_if_ne hx hb dL_law_174 (tgt := 189) (by decide) (fun hc => ?_) (fun hc => ?_)
        · skip
          refine lv_goto hx hb dL_law_189 (tgt := 729) (by decide) ?_
          refine lv_iinc (k := 2) (v := nI (5 * (n + 1))) hx hb dL_law_729 hl rfl (nI_add (5 * n) 5) (by decide) rfl (fun ls hl => ?_)
          have hl : lv_has ls 8 [(4, .int (nI (5 * (n + 1)))), (6, .int r9m), (5, .int 2), (0, .ref b), (1, .ref h0), (2, .ref g0), (3, .ref oa)] := hl
          refine lv_goto hx hb dL_law_732 (tgt := 23) (by decide) ?_
          refine W.widen (k := 15 + (n + 1)) (n := 26538 + 6 * (n + 1)) (by omega) (by omega) ?_
          exact hN ce1 rg1 tk1 ob1 co1 re1 rc1 np1 th1 kd1 zs1 od1 lk1 nu1 rb1 rm1 td1 om1 cm1 tp1 fo1 (hp_rm M n8) H locs ls ⟨hp_rm_W hW n8, hC1, hQ1⟩ hP hD hS (lv_sub hl [0, 3, 4, 5, 6] rfl)
        · exact absurd hc (by decide)
      · exact absurd rfl hc
    · exact absurd hy hc
  · have hy := hc
    refine lv_iconst (v := 1) hx hb dL_law_112 (by decide) ?_
    refine lv_goto hx hb dL_law_113 (tgt := 117) (by decide) ?_
    refine lv_aload_n hx hb dL_law_117 rfl (lv_at hl 1 rfl) ?_
    refine lv_iload hx hb dL_law_118 (lv_at hl 0 rfl) ?_
    refine lv_iconst (v := 3) hx hb dL_law_120 (by decide) ?_
    refine lv_iadd hx hb dL_law_121 ?_
    refine hw_sld (j := 5 * n + 3) hx hb hX hbl hbA hS (nI_add (5 * n) 3) (by omega) (by omega) dL_law_122 ?_
    refine hw_topi (y := nI n8) (h3) ?_
    refine lv_aload_n hx hb dL_law_123 rfl (lv_at hl 4 rfl) ?_
    have hPc := hP.sub (ws' := [(oa, .inl (oc, 1, .inr (.inl fo))), (h0, .inr (0, [.ref a1, .ref a2, .int tk, .int ob, .int co, .ref a3, .int rc, .ref a4])), (a1, .inl (c1, 300, .inr (.inl ce))), (a2, .inl (c2, 16, .inl rg)), (a3, .inl (c3, 300, .inl re)), (a4, .inl (c4, 300, .inl np))]) [9, 10, 11, 12, 13, 14] rfl
    have hDc := hD.sub (ws' := [(oa, .inl (oc, 1, .inr (.inl fo))), (h0, .inr (0, [.ref a1, .ref a2, .int tk, .int ob, .int co, .ref a3, .int rc, .ref a4])), (a1, .inl (c1, 300, .inr (.inl ce))), (a2, .inl (c2, 16, .inl rg)), (a3, .inl (c3, 300, .inl re)), (a4, .inl (c4, 300, .inl np))]) [9, 10, 11, 12, 13, 14] (by decide) rfl
    have hKc := hK.sub (tys' := [(oc, .long), (c1, .long), (c2, .int), (c3, .int), (c4, .int)]) [8, 9, 10, 11, 12] rfl
    refine hw_calliP (wc := [(oa, .inl (oc, 1, .inr (.inl fo))), (h0, .inr (0, [.ref a1, .ref a2, .int tk, .int ob, .int co, .ref a3, .int rc, .ref a4])), (a1, .inl (c1, 300, .inr (.inl ce))), (a2, .inl (c2, 16, .inl rg)), (a3, .inl (c3, 300, .inl re)), (a4, .inl (c4, 300, .inl np))]) (wr := [(g0, .inr (1, [.int th, .ref b1, .ref b2, .ref b3, .ref b4, .ref b5, .ref b6, .ref b7, .ref b8, .int om, .int cm, .int tp])), (b1, .inl (e1, 301, .inl kd)), (b2, .inl (e2, 301, .inl zs)), (b3, .inl (e3, 301, .inl od)), (b4, .inl (e4, 12040, .inl lk)), (b5, .inl (e5, 12040, .inr (.inl nu))), (b6, .inl (e6, 301, .inl rb)), (b7, .inl (e7, 16, .inl rm)), (b8, .inl (e8, 301, .inl td))]) [9, 10, 11, 12, 13, 14] [0, 1, 2, 3, 4, 5, 6, 7, 8] (vx_runSW (As := [.ref h0, .int (nI j), .int 1, .int (nI n8), .ref oa]) (rest := []) ⟨hx, hb, hml, hown, hts⟩ (w2_make l dC dI h0 a1 a2 a3 a4 c1 c2 c3 c4 oa oc ce rg tk ob co re rc np _ fo hl9 M hW hC j n8 1 1 hj hn8 (Or.inr ⟨by decide, rfl⟩) hfit) (vx_cwSW 5 hts gw_L_53 rfl rfl rfl ⟨by decide, by decide, by decide +kernel⟩ ⟨Nat.le_of_ble_eq_true rfl, Nat.le_of_ble_eq_true rfl⟩) ⟨hv_blind, hv_pay hPc hKc hDc hS hA hZ hG⟩ rfl rfl hl.1 rfl (lv_room (Nat.le_of_ble_eq_true rfl)) dL_law_124 ⟨by show _ ≤ 1043; omega, by show _ ≤ 34754; omega⟩) hP hD hS hA rfl rfl (by decide) (by decide) (fun r9 u9 H locs hw hP hD hS => ?_)
    obtain ⟨fo1, ce1, rg1, tk1, ob1, co1, re1, rc1, np1⟩ := u9
    have hP : va_P (dC, dI) vwCl [(g0, .inr (1, [.int th, .ref b1, .ref b2, .ref b3, .ref b4, .ref b5, .ref b6, .ref b7, .ref b8, .int om, .int cm, .int tp])), (b1, .inl (e1, 301, .inl kd)), (b2, .inl (e2, 301, .inl zs)), (b3, .inl (e3, 301, .inl od)), (b4, .inl (e4, 12040, .inl lk)), (b5, .inl (e5, 12040, .inr (.inl nu))), (b6, .inl (e6, 301, .inl rb)), (b7, .inl (e7, 16, .inl rm)), (b8, .inl (e8, 301, .inl td)), (oa, .inl (oc, 1, .inr (.inl fo1))), (h0, .inr (0, [.ref a1, .ref a2, .int tk1, .int ob1, .int co1, .ref a3, .int rc1, .ref a4])), (a1, .inl (c1, 300, .inr (.inl ce1))), (a2, .inl (c2, 16, .inl rg1)), (a3, .inl (c3, 300, .inl re1)), (a4, .inl (c4, 300, .inl np1))] H := hP
    have hD : va_D (lz_A s) [(g0, .inr (1, [.int th, .ref b1, .ref b2, .ref b3, .ref b4, .ref b5, .ref b6, .ref b7, .ref b8, .int om, .int cm, .int tp])), (b1, .inl (e1, 301, .inl kd)), (b2, .inl (e2, 301, .inl zs)), (b3, .inl (e3, 301, .inl od)), (b4, .inl (e4, 12040, .inl lk)), (b5, .inl (e5, 12040, .inr (.inl nu))), (b6, .inl (e6, 301, .inl rb)), (b7, .inl (e7, 16, .inl rm)), (b8, .inl (e8, 301, .inl td)), (oa, .inl (oc, 1, .inr (.inl fo1))), (h0, .inr (0, [.ref a1, .ref a2, .int tk1, .int ob1, .int co1, .ref a3, .int rc1, .ref a4])), (a1, .inl (c1, 300, .inr (.inl ce1))), (a2, .inl (c2, 16, .inl rg1)), (a3, .inl (c3, 300, .inl re1)), (a4, .inl (c4, 300, .inl np1))] := hD
    obtain ⟨hr9, hC1⟩ := hw
    subst hr9
    dsimp only at hC1
    refine lv_istore hx hb dL_law_127 hl (by decide) rfl (fun ls hl => ?_)
    have hl : lv_has ls 8 [(5, .int 2), (4, .int (nI (5 * n))), (0, .ref b), (1, .ref h0), (2, .ref g0), (3, .ref oa)] := hl
    refine lv_aload_n hx hb dL_law_129 rfl (lv_at hl 4 rfl) ?_
    refine lv_aload_n hx hb dL_law_130 rfl (lv_at hl 2 rfl) ?_
    refine lv_iload hx hb dL_law_131 (lv_at hl 1 rfl) ?_
    refine lv_iconst (v := 1) hx hb dL_law_133 (by decide) ?_
    refine lv_iadd hx hb dL_law_134 ?_
    refine hw_sld (j := 5 * n + 1) hx hb hX hbl hbA hS (nI_add (5 * n) 1) (by omega) (by omega) dL_law_135 ?_
    refine hw_topi (y := nI j) (h1) ?_
    refine lv_aload_n hx hb dL_law_136 rfl (lv_at hl 2 rfl) ?_
    refine lv_iload hx hb dL_law_137 (lv_at hl 1 rfl) ?_
    refine lv_iconst (v := 2) hx hb dL_law_139 (by decide) ?_
    refine lv_iadd hx hb dL_law_140 ?_
    refine hw_sld (j := 5 * n + 2) hx hb hX hbl hbA hS (nI_add (5 * n) 2) (by omega) (by omega) dL_law_141 ?_
    refine lv_if_eq hx hb dL_law_142 (tgt := 149) (by decide) (fun hc => ?_) (fun hc => ?_)
    · exact absurd hc hy
    · skip
      refine lv_iconst (v := 1) hx hb dL_law_145 (by decide) ?_
      refine lv_goto hx hb dL_law_146 (tgt := 150) (by decide) ?_
      refine lv_aload_n hx hb dL_law_150 rfl (lv_at hl 2 rfl) ?_
      refine lv_iload hx hb dL_law_151 (lv_at hl 1 rfl) ?_
      refine lv_iconst (v := 3) hx hb dL_law_153 (by decide) ?_
      refine lv_iadd hx hb dL_law_154 ?_
      refine hw_sld (j := 5 * n + 3) hx hb hX hbl hbA hS (nI_add (5 * n) 3) (by omega) (by omega) dL_law_155 ?_
      refine hw_topi (y := nI n8) (h3) ?_
      have hPc := hP.sub (ws' := [(g0, .inr (1, [.int th, .ref b1, .ref b2, .ref b3, .ref b4, .ref b5, .ref b6, .ref b7, .ref b8, .int om, .int cm, .int tp])), (b1, .inl (e1, 301, .inl kd)), (b2, .inl (e2, 301, .inl zs)), (b3, .inl (e3, 301, .inl od)), (b4, .inl (e4, 12040, .inl lk)), (b5, .inl (e5, 12040, .inr (.inl nu))), (b6, .inl (e6, 301, .inl rb)), (b7, .inl (e7, 16, .inl rm)), (b8, .inl (e8, 301, .inl td))]) [0, 1, 2, 3, 4, 5, 6, 7, 8] rfl
      have hDc := hD.sub (ws' := [(g0, .inr (1, [.int th, .ref b1, .ref b2, .ref b3, .ref b4, .ref b5, .ref b6, .ref b7, .ref b8, .int om, .int cm, .int tp])), (b1, .inl (e1, 301, .inl kd)), (b2, .inl (e2, 301, .inl zs)), (b3, .inl (e3, 301, .inl od)), (b4, .inl (e4, 12040, .inl lk)), (b5, .inl (e5, 12040, .inr (.inl nu))), (b6, .inl (e6, 301, .inl rb)), (b7, .inl (e7, 16, .inl rm)), (b8, .inl (e8, 301, .inl td))]) [0, 1, 2, 3, 4, 5, 6, 7, 8] (by decide) rfl
      have hKc := hK.sub (tys' := [(e1, .int), (e2, .int), (e3, .int), (e4, .int), (e5, .long), (e6, .boolean), (e7, .int), (e8, .int)]) [0, 1, 2, 3, 4, 5, 6, 7] rfl
      refine hw_calliP (wc := [(g0, .inr (1, [.int th, .ref b1, .ref b2, .ref b3, .ref b4, .ref b5, .ref b6, .ref b7, .ref b8, .int om, .int cm, .int tp])), (b1, .inl (e1, 301, .inl kd)), (b2, .inl (e2, 301, .inl zs)), (b3, .inl (e3, 301, .inl od)), (b4, .inl (e4, 12040, .inl lk)), (b5, .inl (e5, 12040, .inr (.inl nu))), (b6, .inl (e6, 301, .inl rb)), (b7, .inl (e7, 16, .inl rm)), (b8, .inl (e8, 301, .inl td))]) (wr := [(oa, .inl (oc, 1, .inr (.inl fo1))), (h0, .inr (0, [.ref a1, .ref a2, .int tk1, .int ob1, .int co1, .ref a3, .int rc1, .ref a4])), (a1, .inl (c1, 300, .inr (.inl ce1))), (a2, .inl (c2, 16, .inl rg1)), (a3, .inl (c3, 300, .inl re1)), (a4, .inl (c4, 300, .inl np1))]) [0, 1, 2, 3, 4, 5, 6, 7, 8] [9, 10, 11, 12, 13, 14] (va_runV (As := [.int (nI j), .int 1, .int (nI n8)]) (rest := []) ⟨hx, hb, hml, hown, hts⟩ (c2_X1_make l dC dI g0 b1 b2 b3 b4 b5 b6 b7 b8 e1 e2 e3 e4 e5 e6 e7 e8 th kd zs od lk nu rb rm td om cm tp _ M hW hQ j n8 1 1 hj hn8 (Or.inr ⟨by decide, rfl⟩) hfit) (cwV 3 hts gw_L_58 rfl rfl rfl ⟨rfl, by decide, by decide, by decide +kernel⟩ ⟨Nat.le_of_ble_eq_true rfl, Nat.le_of_ble_eq_true rfl⟩) ⟨hw_blind, va_recv (q0 := 0) (ci := 1) (q := (RX1, TX1, 12)) hKc hPc rfl rfl, hw_pay hPc hKc hDc⟩ rfl rfl hl.1 rfl (lv_room (Nat.le_of_ble_eq_true rfl)) dL_law_156 ⟨by show _ ≤ 1043; omega, by show _ ≤ 34754; omega⟩) hP hD hS hA rfl rfl (by decide) (by decide) (fun r9m u9 H locs hw hP hD hS => ?_)
      obtain ⟨th1, kd1, zs1, od1, lk1, nu1, rb1, rm1, td1, om1, cm1, tp1⟩ := u9
      have hP := hP.sub (ws' := [(g0, .inr (1, [.int th1, .ref b1, .ref b2, .ref b3, .ref b4, .ref b5, .ref b6, .ref b7, .ref b8, .int om1, .int cm1, .int tp1])), (b1, .inl (e1, 301, .inl kd1)), (b2, .inl (e2, 301, .inl zs1)), (b3, .inl (e3, 301, .inl od1)), (b4, .inl (e4, 12040, .inl lk1)), (b5, .inl (e5, 12040, .inr (.inl nu1))), (b6, .inl (e6, 301, .inl rb1)), (b7, .inl (e7, 16, .inl rm1)), (b8, .inl (e8, 301, .inl td1)), (oa, .inl (oc, 1, .inr (.inl fo1))), (h0, .inr (0, [.ref a1, .ref a2, .int tk1, .int ob1, .int co1, .ref a3, .int rc1, .ref a4])), (a1, .inl (c1, 300, .inr (.inl ce1))), (a2, .inl (c2, 16, .inl rg1)), (a3, .inl (c3, 300, .inl re1)), (a4, .inl (c4, 300, .inl np1))]) [6, 7, 8, 9, 10, 11, 12, 13, 14, 0, 1, 2, 3, 4, 5] rfl
      have hD := hD.sub (ws' := [(g0, .inr (1, [.int th1, .ref b1, .ref b2, .ref b3, .ref b4, .ref b5, .ref b6, .ref b7, .ref b8, .int om1, .int cm1, .int tp1])), (b1, .inl (e1, 301, .inl kd1)), (b2, .inl (e2, 301, .inl zs1)), (b3, .inl (e3, 301, .inl od1)), (b4, .inl (e4, 12040, .inl lk1)), (b5, .inl (e5, 12040, .inr (.inl nu1))), (b6, .inl (e6, 301, .inl rb1)), (b7, .inl (e7, 16, .inl rm1)), (b8, .inl (e8, 301, .inl td1)), (oa, .inl (oc, 1, .inr (.inl fo1))), (h0, .inr (0, [.ref a1, .ref a2, .int tk1, .int ob1, .int co1, .ref a3, .int rc1, .ref a4])), (a1, .inl (c1, 300, .inr (.inl ce1))), (a2, .inl (c2, 16, .inl rg1)), (a3, .inl (c3, 300, .inl re1)), (a4, .inl (c4, 300, .inl np1))]) [6, 7, 8, 9, 10, 11, 12, 13, 14, 0, 1, 2, 3, 4, 5] (by decide) rfl
      have hP : va_P (dC, dI) vwCl [(g0, .inr (1, [.int th1, .ref b1, .ref b2, .ref b3, .ref b4, .ref b5, .ref b6, .ref b7, .ref b8, .int om1, .int cm1, .int tp1])), (b1, .inl (e1, 301, .inl kd1)), (b2, .inl (e2, 301, .inl zs1)), (b3, .inl (e3, 301, .inl od1)), (b4, .inl (e4, 12040, .inl lk1)), (b5, .inl (e5, 12040, .inr (.inl nu1))), (b6, .inl (e6, 301, .inl rb1)), (b7, .inl (e7, 16, .inl rm1)), (b8, .inl (e8, 301, .inl td1)), (oa, .inl (oc, 1, .inr (.inl fo1))), (h0, .inr (0, [.ref a1, .ref a2, .int tk1, .int ob1, .int co1, .ref a3, .int rc1, .ref a4])), (a1, .inl (c1, 300, .inr (.inl ce1))), (a2, .inl (c2, 16, .inl rg1)), (a3, .inl (c3, 300, .inl re1)), (a4, .inl (c4, 300, .inl np1))] H := hP
      have hD : va_D (lz_A s) [(g0, .inr (1, [.int th1, .ref b1, .ref b2, .ref b3, .ref b4, .ref b5, .ref b6, .ref b7, .ref b8, .int om1, .int cm1, .int tp1])), (b1, .inl (e1, 301, .inl kd1)), (b2, .inl (e2, 301, .inl zs1)), (b3, .inl (e3, 301, .inl od1)), (b4, .inl (e4, 12040, .inl lk1)), (b5, .inl (e5, 12040, .inr (.inl nu1))), (b6, .inl (e6, 301, .inl rb1)), (b7, .inl (e7, 16, .inl rm1)), (b8, .inl (e8, 301, .inl td1)), (oa, .inl (oc, 1, .inr (.inl fo1))), (h0, .inr (0, [.ref a1, .ref a2, .int tk1, .int ob1, .int co1, .ref a3, .int rc1, .ref a4])), (a1, .inl (c1, 300, .inr (.inl ce1))), (a2, .inl (c2, 16, .inl rg1)), (a3, .inl (c3, 300, .inl re1)), (a4, .inl (c4, 300, .inl np1))] := hD
      obtain ⟨hth, hQ1⟩ := hw
      dsimp only at hth hQ1
      refine lv_istore hx hb dL_law_159 hl (by decide) rfl (fun ls hl => ?_)
      have hl : lv_has ls 8 [(6, .int r9m), (5, .int 2), (4, .int (nI (5 * n))), (0, .ref b), (1, .ref h0), (2, .ref g0), (3, .ref oa)] := hl
      refine lv_aload_n hx hb dL_law_161 rfl (lv_at hl 5 rfl) ?_
      have hPc := hP.sub (ws' := [(g0, .inr (1, [.int th1, .ref b1, .ref b2, .ref b3, .ref b4, .ref b5, .ref b6, .ref b7, .ref b8, .int om1, .int cm1, .int tp1])), (b1, .inl (e1, 301, .inl kd1)), (b2, .inl (e2, 301, .inl zs1)), (b3, .inl (e3, 301, .inl od1)), (b4, .inl (e4, 12040, .inl lk1)), (b5, .inl (e5, 12040, .inr (.inl nu1))), (b6, .inl (e6, 301, .inl rb1)), (b7, .inl (e7, 16, .inl rm1)), (b8, .inl (e8, 301, .inl td1))]) [0, 1, 2, 3, 4, 5, 6, 7, 8] rfl
      have hDc := hD.sub (ws' := [(g0, .inr (1, [.int th1, .ref b1, .ref b2, .ref b3, .ref b4, .ref b5, .ref b6, .ref b7, .ref b8, .int om1, .int cm1, .int tp1])), (b1, .inl (e1, 301, .inl kd1)), (b2, .inl (e2, 301, .inl zs1)), (b3, .inl (e3, 301, .inl od1)), (b4, .inl (e4, 12040, .inl lk1)), (b5, .inl (e5, 12040, .inr (.inl nu1))), (b6, .inl (e6, 301, .inl rb1)), (b7, .inl (e7, 16, .inl rm1)), (b8, .inl (e8, 301, .inl td1))]) [0, 1, 2, 3, 4, 5, 6, 7, 8] (by decide) rfl
      have hKc := hK.sub (tys' := [(e1, .int), (e2, .int), (e3, .int), (e4, .int), (e5, .long), (e6, .boolean), (e7, .int), (e8, .int)]) [0, 1, 2, 3, 4, 5, 6, 7] rfl
      refine W.callR (W.runV (As := []) (rest := []) ⟨hx, hb, hml, hown, hts⟩ (c_X1_thrown l dC dI g0 b1 b2 b3 b4 b5 b6 b7 b8 e1 e2 e3 e4 e5 e6 e7 e8 th1 kd1 zs1 od1 lk1 nu1 rb1 rm1 td1 om1 cm1 tp1 _ ) (cwV 0 hts gw_L_59 rfl rfl rfl ⟨rfl, by decide, by decide, by decide +kernel⟩ ⟨Nat.le_of_ble_eq_true rfl, Nat.le_of_ble_eq_true rfl⟩) ⟨hw_blind, va_recv (q0 := 0) (ci := 1) (q := (RX1, TX1, 12)) hKc hPc rfl rfl, hw_pay hPc hKc hDc⟩ rfl rfl hl.1 rfl (lv_room (Nat.le_of_ble_eq_true rfl)) dL_law_162 ⟨by show _ ≤ 1043; omega, by show _ ≤ 34754; omega⟩) ?_
      refine W.eq (g2 := F0 m 165 ls [.int th1]) rfl ?_
      refine hw_topi (y := 2) (hth) ?_
      refine lv_iload hx hb dL_law_165 (lv_at hl 1 rfl) ?_
      refine lv_icmp_eq hx hb dL_law_167 (tgt := 172) (by decide) (fun hc => ?_) (fun hc => ?_)
      · skip
        refine lv_iload hx hb dL_law_172 (lv_at hl 1 rfl) ?_
        refine lv_if_ne hx hb dL_law_174 (tgt := 189) (by decide) (fun hc => ?_) (fun hc => ?_)
        · skip
          refine lv_goto hx hb dL_law_189 (tgt := 729) (by decide) ?_
          refine lv_iinc (k := 2) (v := nI (5 * (n + 1))) hx hb dL_law_729 hl rfl (nI_add (5 * n) 5) (by decide) rfl (fun ls hl => ?_)
          have hl : lv_has ls 8 [(4, .int (nI (5 * (n + 1)))), (6, .int r9m), (5, .int 2), (0, .ref b), (1, .ref h0), (2, .ref g0), (3, .ref oa)] := hl
          refine lv_goto hx hb dL_law_732 (tgt := 23) (by decide) ?_
          refine W.widen (k := 15 + (n + 1)) (n := 26538 + 6 * (n + 1)) (by omega) (by omega) ?_
          exact hN ce1 rg1 tk1 ob1 co1 re1 rc1 np1 th1 kd1 zs1 od1 lk1 nu1 rb1 rm1 td1 om1 cm1 tp1 fo1 (hp_rm M n8) H locs ls ⟨hp_rm_W hW n8, hC1, hQ1⟩ hP hD hS (lv_sub hl [0, 3, 4, 5, 6] rfl)
        · exact absurd hc (by decide)
      · exact absurd rfl hc
