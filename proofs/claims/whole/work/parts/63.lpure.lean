theorem hp_ck_ex (bad : Prop) : ∃ k, hp_ck bad k := (Classical.em bad).elim (fun h => ⟨1, Or.inl ⟨h, rfl⟩⟩) (fun h => ⟨0, Or.inr ⟨h, rfl⟩⟩)
theorem hp_lk_ex (M : hp_S) (bad : Prop) (o : Nat) (i : Int32) (ok : Prop) : ∃ k, hp_lk M bad o i ok k := by
  by_cases hb : bad
  · exact ⟨1, Or.inl ⟨hb, rfl⟩⟩
  · by_cases h0 : o = 0
    · exact ⟨2, Or.inr ⟨hb, Or.inl ⟨h0, rfl⟩⟩⟩
    · by_cases hc : ¬ ok ∨ hp_bad i (hp_z M o)
      · exact ⟨1, Or.inr ⟨hb, Or.inr (Or.inl ⟨h0, hc, rfl⟩)⟩⟩
      · exact ⟨0, Or.inr ⟨hb, Or.inr (Or.inr ⟨h0, Classical.byContradiction (fun h => hc (Or.inl h)), fun h => hc (Or.inr h), rfl⟩)⟩⟩
theorem hp_dd_W {M : hp_S} (hW : hp_W M) (r : Int32) (k : Nat) : hp_W (hp_dd M r k) := by
  unfold hp_dd; split
  · exact hp_sr_W hW (Or.inl rfl)
  · exact hW
theorem hp_dc_W {M : hp_S} (hW : hp_W M) {r y : Int32} {k : Nat} (hk : hp_ck (hp_bad r 16 ∨ hp_bad y 16) k) : hp_W (hp_dc M r y k) := by
  unfold hp_dc
  by_cases h0 : k = 0
  · rw [if_pos h0]
    obtain ⟨i, hi, hyi⟩ := hp_ok' (fun h => hp_ck_0 hk h0 (Or.inr h))
    rw [hp_atE hyi hi]
    exact hp_sr_W hW (hW.2.2.2.1 i hi)
  · rw [if_neg h0]; exact hW
theorem hp_dl_W {M : hp_S} (hW : hp_W M) {r i y : Int32} {k : Nat} (hk : hp_lk M (hp_bad r 16 ∨ hp_bad y 16) (hp_at M r) i (hp_k M (hp_at M r) = 1) k) : hp_W (hp_dl M r i y k) := by
  unfold hp_dl
  by_cases h0 : k = 0
  · rw [if_pos h0]
    obtain ⟨hnb, -, -, -⟩ := hp_lk_0 hk h0
    obtain ⟨q, hq, hyq⟩ := hp_ok' (fun h => hnb (Or.inr h))
    rw [hp_atE hyq hq]
    exact hp_sl_W hW (hW.2.2.2.1 q hq)
  · rw [if_neg h0]; exact hW
theorem hp_df_W {M : hp_S} (hW : hp_W M) {r y i : Int32} {k : Nat} (hk : hp_lk M (hp_bad r 16 ∨ hp_bad y 16) (hp_at M y) i (hp_k M (hp_at M y) ≠ 2) k) : hp_W (hp_df M r y i k) := by
  unfold hp_df
  by_cases h0 : k = 0
  · rw [if_pos h0]
    obtain ⟨hnb, h00, hok, hbi⟩ := hp_lk_0 hk h0
    obtain ⟨j, hj, hyj⟩ := hp_ok' (fun h => hnb (Or.inr h))
    rw [hp_atE hyj hj] at h00 hok hbi ⊢
    have hoL := (hW.2.2.2.1 j hj).resolve_left h00
    have hz := (hW.2.1 _ hoL).2.2.2.2.1
    obtain ⟨q, hq, hiq⟩ := hp_ok hbi (by omega)
    rw [hp_cl hiq hq hz]
    exact hp_sr_W hW (hW.2.2.2.2.1 _ hoL hok q hq)
  · rw [if_neg h0]; exact hW
theorem hp_dp_W {M : hp_S} (hW : hp_W M) (r i : Int32) (v : Int64) (k : Nat) : hp_W (hp_dp M r i v k) := by
  unfold hp_dp; split
  · exact hp_sn_W hW
  · exact hW
/-- the room for the next five ints of the script -/
theorem hp_go {n L : Nat} (hL : L ≤ 2560) (hn : 5 * n ≤ L) (h : ¬ nI L - 5 < nI (5 * n)) : 5 * n + 5 ≤ L := by
  have e : (5 : Int32) = nI 5 := by decide +kernel
  rw [e] at h
  have h1 : (nI L - nI 5).toInt = (L : Int) - 5 := pk_sub_toInt (by omega) (by decide)
  have h2 : (nI (5 * n)).toInt = ((5 * n : Nat) : Int) := nI_toInt (by omega)
  rw [Int32.lt_iff_toInt_lt, h1, h2] at h
  omega
theorem hp_15 (x : Int32) : ∃ j : Nat, j < 16 ∧ x &&& 15 = nI j := by
  have := pk_andE x (m := 15) 4 (by decide +kernel)
  exact this
section HSL
variable {p : Program} {l : Launch} {e : Env} {R : Room} {s : State} {m : MethodId} {args : Array Value} {below : List Frame} {meth : Method} {c : Code} {H : Heap} {locs : List Loc} {cells slots : Nat} {Q : State → Prop}
variable {cc : ByteArray} {pc : Nat} {ls : Array Slot} {rest : List Value} {A : Nat → Prop} {H0 : Heap}
theorem hw_sld (hexec : p.tables.exec = Jvm.exec) (hb : c.code = cc) {b L : Nat} {xs : Nat → Int32} (hX : va_X b L xs s H0) (hbl : b < H0.size) (hbA : ¬ A b) (hS : va_S A H0 H locs) {i : Int32} {j : Nat} (hi : i = nI j) (hj : j < L) (hL : L < 2 ^ 31) (hdg : decode cc pc = .ok (.iaload, 1))
    (kk : W p l e R s m args below meth c H locs cells slots Q (F0 m (pc + 1) ls (.int (xs j) :: rest))) : W p l e R s m args below meth c H locs cells slots Q (F0 m pc ls (.int i :: .ref b :: rest)) := by
  subst hi
  refine va_sld hexec hb hX hbl hbA hS (vp_in_nI hj hL) hdg ?_
  rw [nI_clamp (Nat.lt_trans hj hL)]
  exact kk
end HSL
def lz_A (s : State) : Nat → Prop := fun q => s.heap.size ≤ q
