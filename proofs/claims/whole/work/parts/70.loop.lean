set_option maxHeartbeats 4000000 in
set_option maxRecDepth 100000 in
theorem lc_loop {p : Program} {l : Launch} {e : Env} {s : State} {m : MethodId} {below : List Frame} {meth : Method} {c : Code} {b L : Nat} {xs : Nat → Int32} {Q : State → Prop} (dC : Nat → ClassId) (dI : Nat → Nat → Nat) (h0 a1 a2 a3 a4 : Nat) (c1 c2 c3 c4 : ClassId) (g0 b1 b2 b3 b4 b5 b6 b7 b8 : Nat) (e1 e2 e3 e4 e5 e6 e7 e8 : ClassId) (oa : Nat) (oc : ClassId) (hx : p.tables.exec = Jvm.exec) (hb : c.code = cL_law) (hml : c.maxLocals = 8) (hown : s.vm.findClass RL = some m.cls) (hts : ∀ w ∈ wb, w.before #[Value.ref b] s = true) (hX : va_X b L xs s s.heap) (hbl : b < s.heap.size) (hl9 : l.stackTraces = false) (hZ : hz_F (lz_A s) s s.heap) (hG : hz_G s) (hK : va_K (dC, dI) vwCl [(e1, .int), (e2, .int), (e3, .int), (e4, .int), (e5, .long), (e6, .boolean), (e7, .int), (e8, .int), (oc, .long), (c1, .long), (c2, .int), (c3, .int), (c4, .int)] s) (hL : L ≤ 2560) (hQ0 : Q = lw_Z below #[Value.ref b] s) (hr : meth.sig.returnType = ret) (hlocks : meth.locks = false) : ∀ (f9 n : Nat), 513 - n < f9 → 5 * n ≤ L → ∀ (ce : Nat → Int64) (rg : Nat → Int32) (tk : Int32) (ob : Int32) (co : Int32) (re : Nat → Int32) (rc : Int32) (np : Nat → Int32) (th : Int32) (kd : Nat → Int32) (zs : Nat → Int32) (od : Nat → Int32) (lk : Nat → Int32) (nu : Nat → Int64) (rb : Nat → Int32) (rm : Nat → Int32) (td : Nat → Int32) (om : Int32) (cm : Int32) (tp : Int32) (fo : Nat → Int64) (M : hp_S) (H : Heap) (locs : List Loc) (ls : Array Slot), (hp_W M ∧ hp_C M ce rg tk ob co ∧ hp_Q M kd zs od lk nu rm om cm) → va_P (dC, dI) vwCl [(g0, .inr (1, [.int th, .ref b1, .ref b2, .ref b3, .ref b4, .ref b5, .ref b6, .ref b7, .ref b8, .int om, .int cm, .int tp])), (b1, .inl (e1, 301, .inl kd)), (b2, .inl (e2, 301, .inl zs)), (b3, .inl (e3, 301, .inl od)), (b4, .inl (e4, 12040, .inl lk)), (b5, .inl (e5, 12040, .inr (.inl nu))), (b6, .inl (e6, 301, .inl rb)), (b7, .inl (e7, 16, .inl rm)), (b8, .inl (e8, 301, .inl td)), (oa, .inl (oc, 1, .inr (.inl fo))), (h0, .inr (0, [.ref a1, .ref a2, .int tk, .int ob, .int co, .ref a3, .int rc, .ref a4])), (a1, .inl (c1, 300, .inr (.inl ce))), (a2, .inl (c2, 16, .inl rg)), (a3, .inl (c3, 300, .inl re)), (a4, .inl (c4, 300, .inl np))] H → va_D (lz_A s) [(g0, .inr (1, [.int th, .ref b1, .ref b2, .ref b3, .ref b4, .ref b5, .ref b6, .ref b7, .ref b8, .int om, .int cm, .int tp])), (b1, .inl (e1, 301, .inl kd)), (b2, .inl (e2, 301, .inl zs)), (b3, .inl (e3, 301, .inl od)), (b4, .inl (e4, 12040, .inl lk)), (b5, .inl (e5, 12040, .inr (.inl nu))), (b6, .inl (e6, 301, .inl rb)), (b7, .inl (e7, 16, .inl rm)), (b8, .inl (e8, 301, .inl td)), (oa, .inl (oc, 1, .inr (.inl fo))), (h0, .inr (0, [.ref a1, .ref a2, .int tk, .int ob, .int co, .ref a3, .int rc, .ref a4])), (a1, .inl (c1, 300, .inr (.inl ce))), (a2, .inl (c2, 16, .inl rg)), (a3, .inl (c3, 300, .inl re)), (a4, .inl (c4, 300, .inl np))] → va_S (lz_A s) s.heap H locs → lv_has ls 8 [(4, .int (nI (5 * n))), (0, .ref b), (1, .ref h0), (2, .ref g0), (3, .ref oa)] → W p l e room_1 s m #[Value.ref b] below meth c H locs (15 + n) (26538 + 6 * n) Q (F0 m 23 ls []) := by
  intro f9
  induction f9 with
  | zero => intro n h9; exact absurd h9 (Nat.not_lt_zero _)
  | succ f9 ih =>
    intro n hf9 hn ce rg tk ob co re rc np th kd zs od lk nu rb rm td om cm tp fo M H locs ls hI hP hD hS hl
    obtain ⟨hW, hC, hQ⟩ := hI
    have hbA : ¬ lz_A s b := Nat.not_le_of_lt hbl
    have hA : ∀ q : Nat, s.heap.size ≤ q → lz_A s q := fun q h => h
    refine lv_iload hx hb dL_law_23 (lv_at hl 0 rfl) ?_
    refine lv_aload_n hx hb dL_law_25 rfl (lv_at hl 1 rfl) ?_
    refine va_slen hx hb hX hbl hbA hS dL_law_26 ?_
    refine hw_topi (y := nI L) rfl ?_
    refine lv_iconst (v := 5) hx hb dL_law_27 (by decide) ?_
    refine lv_isub hx hb dL_law_28 ?_
    refine lv_icmp_gt hx hb dL_law_29 (tgt := 735) (by decide) (fun hc => ?_) (fun hc => ?_)
    · skip
      refine lv_iconst (v := 1) hx hb dL_law_735 (by decide) ?_
      subst hQ0
      refine W.widen (k := 1043) (n := 34754) (by omega) (by omega) ?_
      refine va_forget (fun q hq => hS.2.2 q hq) ?_
      exact lw_ret hx hb hr hlocks dL_law_736
    · have hn9 := hp_go hL hn hc
      have hN := ih (n + 1) (by omega) (by omega)
      refine lv_aload_n hx hb dL_law_32 rfl (lv_at hl 1 rfl) ?_
      refine lv_iload hx hb dL_law_33 (lv_at hl 0 rfl) ?_
      refine hw_sld (j := 5 * n) hx hb hX hbl hbA hS rfl (by omega) (by omega) dL_law_35 ?_
      refine lv_bipush (v := 15) hx hb dL_law_36 (by decide) ?_
      refine lv_iand hx hb dL_law_38 ?_
      obtain ⟨d9, hd9, hd⟩ := hp_15 (xs (5 * n))
      refine hw_topi (y := nI d9) (hd) ?_
      have ht9 : (nI d9).toInt = (d9 : Int) := nI_toInt (by omega)
      by_cases h11 : 10 < d9
      · refine lv_tableOut (tgt := 729) hx hb dL_law_39 (Or.inr (by rw [ht9]; omega)) (by decide) ?_
        refine lv_iinc (k := 0) (v := nI (5 * (n + 1))) hx hb dL_law_729 hl rfl (nI_add (5 * n) 5) (by decide) rfl (fun ls hl => ?_)
        have hl : lv_has ls 8 [(4, .int (nI (5 * (n + 1)))), (0, .ref b), (1, .ref h0), (2, .ref g0), (3, .ref oa)] := hl
        refine lv_goto hx hb dL_law_732 (tgt := 23) (by decide) ?_
        refine W.widen (k := 15 + (n + 1)) (n := 26538 + 6 * (n + 1)) (by omega) (by omega) ?_
        exact hN ce rg tk ob co re rc np th kd zs od lk nu rb rm td om cm tp fo M H locs ls ⟨hW, hC, hQ⟩ hP hD hS (lv_sub hl [0, 1, 2, 3, 4] rfl)
      · have h10 : d9 = 0 ∨ d9 = 1 ∨ d9 = 2 ∨ d9 = 3 ∨ d9 = 4 ∨ d9 = 5 ∨ d9 = 6 ∨ d9 = 7 ∨ d9 = 8 ∨ d9 = 9 ∨ d9 = 10 := by omega
        rcases h10 with rfl | rfl | rfl | rfl | rfl | rfl | rfl | rfl | rfl | rfl | rfl
        · refine lv_tableIn (off := 57) (tgt := 96) hx hb dL_law_39 (by rw [ht9]; decide) (by rw [ht9]; decide) (by rw [ht9]; rfl) (by decide) ?_
          by_cases hbad : hp_bad (xs (5 * n + 1)) 16 ∨ hp_bad (xs (5 * n + 3)) 41
          · exact lc_make0 dC dI h0 a1 a2 a3 a4 c1 c2 c3 c4 g0 b1 b2 b3 b4 b5 b6 b7 b8 e1 e2 e3 e4 e5 e6 e7 e8 oa oc hx hb hml hown hts hX hbl hl9 hZ hG hK hL n hn9 ce rg tk ob co re rc np th kd zs od lk nu rb rm td om cm tp fo M hW hC hQ hbad hP hD hS hl hN
          · obtain ⟨j, hj, h1⟩ := hp_ok' (fun h9 => hbad (Or.inl h9))
            obtain ⟨n8, hn8, h3⟩ := hp_n41 (fun h9 => hbad (Or.inr h9))
            by_cases hfit : hp_tk (hp_rm M n8) + (1 + n8) ≤ 300
            · exact lc_make1 dC dI h0 a1 a2 a3 a4 c1 c2 c3 c4 g0 b1 b2 b3 b4 b5 b6 b7 b8 e1 e2 e3 e4 e5 e6 e7 e8 oa oc hx hb hml hown hts hX hbl hl9 hZ hG hK hL n hn9 ce rg tk ob co re rc np th kd zs od lk nu rb rm td om cm tp fo M hW hC hQ j n8 hj hn8 h1 h3 hfit hP hD hS hl hN
            · exact lc_make2 dC dI h0 a1 a2 a3 a4 c1 c2 c3 c4 g0 b1 b2 b3 b4 b5 b6 b7 b8 e1 e2 e3 e4 e5 e6 e7 e8 oa oc hx hb hml hown hts hX hbl hl9 hZ hG hK hL n hn9 ce rg tk ob co re rc np th kd zs od lk nu rb rm td om cm tp fo M hW hC hQ j n8 hj hn8 h1 h3 hfit hP hD hS hl hN
        · refine lv_tableIn (off := 153) (tgt := 192) hx hb dL_law_39 (by rw [ht9]; decide) (by rw [ht9]; decide) (by rw [ht9]; rfl) (by decide) ?_
          by_cases hbad : hp_bad (xs (5 * n + 1)) 16 ∨ hp_bad (xs (5 * n + 2)) 16
          · exact lc_weak0 dC dI h0 a1 a2 a3 a4 c1 c2 c3 c4 g0 b1 b2 b3 b4 b5 b6 b7 b8 e1 e2 e3 e4 e5 e6 e7 e8 oa oc hx hb hml hown hts hX hbl hl9 hZ hG hK hL n hn9 ce rg tk ob co re rc np th kd zs od lk nu rb rm td om cm tp fo M hW hC hQ 1 (Or.inl ⟨hbad, rfl⟩) hP hD hS hl hN
          · obtain ⟨j, hj, h1⟩ := hp_ok' (fun h9 => hbad (Or.inl h9))
            obtain ⟨i, hi, h2⟩ := hp_ok' (fun h9 => hbad (Or.inr h9))
            by_cases h0n : hp_r M i = 0
            · exact lc_weak0 dC dI h0 a1 a2 a3 a4 c1 c2 c3 c4 g0 b1 b2 b3 b4 b5 b6 b7 b8 e1 e2 e3 e4 e5 e6 e7 e8 oa oc hx hb hml hown hts hX hbl hl9 hZ hG hK hL n hn9 ce rg tk ob co re rc np th kd zs od lk nu rb rm td om cm tp fo M hW hC hQ 3 (Or.inr ⟨hbad, (hp_atE h2 hi).trans h0n, rfl⟩) hP hD hS hl hN
            · by_cases hfit : hp_tk (hp_rm M 1) + (1 + 1) ≤ 300
              · exact lc_weak1 dC dI h0 a1 a2 a3 a4 c1 c2 c3 c4 g0 b1 b2 b3 b4 b5 b6 b7 b8 e1 e2 e3 e4 e5 e6 e7 e8 oa oc hx hb hml hown hts hX hbl hl9 hZ hG hK hL n hn9 ce rg tk ob co re rc np th kd zs od lk nu rb rm td om cm tp fo M hW hC hQ j i hj hi h1 h2 h0n hfit hP hD hS hl hN
              · exact lc_weak2 dC dI h0 a1 a2 a3 a4 c1 c2 c3 c4 g0 b1 b2 b3 b4 b5 b6 b7 b8 e1 e2 e3 e4 e5 e6 e7 e8 oa oc hx hb hml hown hts hX hbl hl9 hZ hG hK hL n hn9 ce rg tk ob co re rc np th kd zs od lk nu rb rm td om cm tp fo M hW hC hQ j i hj hi h1 h2 h0n hfit hP hD hS hl hN
        · refine lv_tableIn (off := 221) (tgt := 260) hx hb dL_law_39 (by rw [ht9]; decide) (by rw [ht9]; decide) (by rw [ht9]; rfl) (by decide) ?_
          exact lc_copy dC dI h0 a1 a2 a3 a4 c1 c2 c3 c4 g0 b1 b2 b3 b4 b5 b6 b7 b8 e1 e2 e3 e4 e5 e6 e7 e8 oa oc hx hb hml hown hts hX hbl hl9 hZ hG hK hL n hn9 ce rg tk ob co re rc np th kd zs od lk nu rb rm td om cm tp fo M hW hC hQ  hP hD hS hl hN
        · refine lv_tableIn (off := 269) (tgt := 308) hx hb dL_law_39 (by rw [ht9]; decide) (by rw [ht9]; decide) (by rw [ht9]; rfl) (by decide) ?_
          exact lc_drop dC dI h0 a1 a2 a3 a4 c1 c2 c3 c4 g0 b1 b2 b3 b4 b5 b6 b7 b8 e1 e2 e3 e4 e5 e6 e7 e8 oa oc hx hb hml hown hts hX hbl hl9 hZ hG hK hL n hn9 ce rg tk ob co re rc np th kd zs od lk nu rb rm td om cm tp fo M hW hC hQ  hP hD hS hl hN
        · refine lv_tableIn (off := 305) (tgt := 344) hx hb dL_law_39 (by rw [ht9]; decide) (by rw [ht9]; decide) (by rw [ht9]; rfl) (by decide) ?_
          exact lc_link dC dI h0 a1 a2 a3 a4 c1 c2 c3 c4 g0 b1 b2 b3 b4 b5 b6 b7 b8 e1 e2 e3 e4 e5 e6 e7 e8 oa oc hx hb hml hown hts hX hbl hl9 hZ hG hK hL n hn9 ce rg tk ob co re rc np th kd zs od lk nu rb rm td om cm tp fo M hW hC hQ  hP hD hS hl hN
        · refine lv_tableIn (off := 365) (tgt := 404) hx hb dL_law_39 (by rw [ht9]; decide) (by rw [ht9]; decide) (by rw [ht9]; rfl) (by decide) ?_
          exact lc_follow dC dI h0 a1 a2 a3 a4 c1 c2 c3 c4 g0 b1 b2 b3 b4 b5 b6 b7 b8 e1 e2 e3 e4 e5 e6 e7 e8 oa oc hx hb hml hown hts hX hbl hl9 hZ hG hK hL n hn9 ce rg tk ob co re rc np th kd zs od lk nu rb rm td om cm tp fo M hW hC hQ  hP hD hS hl hN
        · refine lv_tableIn (off := 425) (tgt := 464) hx hb dL_law_39 (by rw [ht9]; decide) (by rw [ht9]; decide) (by rw [ht9]; rfl) (by decide) ?_
          exact lc_put dC dI h0 a1 a2 a3 a4 c1 c2 c3 c4 g0 b1 b2 b3 b4 b5 b6 b7 b8 e1 e2 e3 e4 e5 e6 e7 e8 oa oc hx hb hml hown hts hX hbl hl9 hZ hG hK hL n hn9 ce rg tk ob co re rc np th kd zs od lk nu rb rm td om cm tp fo M hW hC hQ  hP hD hS hl hN
        · refine lv_tableIn (off := 517) (tgt := 556) hx hb dL_law_39 (by rw [ht9]; decide) (by rw [ht9]; decide) (by rw [ht9]; rfl) (by decide) ?_
          exact lc_get dC dI h0 a1 a2 a3 a4 c1 c2 c3 c4 g0 b1 b2 b3 b4 b5 b6 b7 b8 e1 e2 e3 e4 e5 e6 e7 e8 oa oc hx hb hml hown hts hX hbl hl9 hZ hG hK hL n hn9 ce rg tk ob co re rc np th kd zs od lk nu rb rm td om cm tp fo M hW hC hQ  hP hD hS hl hN
        · refine lv_tableIn (off := 584) (tgt := 623) hx hb dL_law_39 (by rw [ht9]; decide) (by rw [ht9]; decide) (by rw [ht9]; rfl) (by decide) ?_
          exact lc_collect dC dI h0 a1 a2 a3 a4 c1 c2 c3 c4 g0 b1 b2 b3 b4 b5 b6 b7 b8 e1 e2 e3 e4 e5 e6 e7 e8 oa oc hx hb hml hown hts hX hbl hl9 hZ hG hK hL n hn9 ce rg tk ob co re rc np th kd zs od lk nu rb rm td om cm tp fo M hW hC hQ  hP hD hS hl hN
        · refine lv_tableIn (off := 597) (tgt := 636) hx hb dL_law_39 (by rw [ht9]; decide) (by rw [ht9]; decide) (by rw [ht9]; rfl) (by decide) ?_
          exact lc_state dC dI h0 a1 a2 a3 a4 c1 c2 c3 c4 g0 b1 b2 b3 b4 b5 b6 b7 b8 e1 e2 e3 e4 e5 e6 e7 e8 oa oc hx hb hml hown hts hX hbl hl9 hZ hG hK hL n hn9 ce rg tk ob co re rc np th kd zs od lk nu rb rm td om cm tp fo M hW hC hQ  hP hD hS hl hN
        · refine lv_tableIn (off := 665) (tgt := 704) hx hb dL_law_39 (by rw [ht9]; decide) (by rw [ht9]; decide) (by rw [ht9]; rfl) (by decide) ?_
          exact lc_count dC dI h0 a1 a2 a3 a4 c1 c2 c3 c4 g0 b1 b2 b3 b4 b5 b6 b7 b8 e1 e2 e3 e4 e5 e6 e7 e8 oa oc hx hb hml hown hts hX hbl hl9 hZ hG hK hL n hn9 ce rg tk ob co re rc np th kd zs od lk nu rb rm td om cm tp fo M hW hC hQ  hP hD hS hl hN
