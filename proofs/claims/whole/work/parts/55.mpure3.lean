/-! what a call leaves, by its code -/
def hp_dd (M : hp_S) (r : Int32) (k : Nat) : hp_S := if k = 0 then hp_sr M r.toNatClampNeg 0 else M
def hp_dc (M : hp_S) (r t : Int32) (k : Nat) : hp_S := if k = 0 then hp_sr M r.toNatClampNeg (hp_at M t) else M
def hp_dl (M : hp_S) (r i t : Int32) (k : Nat) : hp_S := if k = 0 then hp_sl M (hp_at M r) i.toNatClampNeg (hp_at M t) else M
def hp_df (M : hp_S) (r t i : Int32) (k : Nat) : hp_S := if k = 0 then hp_sr M r.toNatClampNeg (hp_l M (hp_at M t) i.toNatClampNeg) else M
def hp_dp (M : hp_S) (r i : Int32) (v : Int64) (k : Nat) : hp_S := if k = 0 then hp_sn M (hp_at M r) i.toNatClampNeg v else M
/-- the code of a call that asks for numbers alone -/
def hp_ck (bad : Prop) (k : Nat) : Prop := (bad ∧ k = 1) ∨ (¬ bad ∧ k = 0)
theorem hp_ck_y {bad : Prop} {k : Nat} (h : hp_ck bad k) (hb : bad) : k = 1 := (h.resolve_right (fun z => z.1 hb)).2
theorem hp_ck_n {bad : Prop} {k : Nat} (h : hp_ck bad k) (hb : ¬ bad) : k = 0 := (h.resolve_left (fun z => hb z.1)).2
theorem hp_ck_0 {bad : Prop} {k : Nat} (h : hp_ck bad k) (h0 : k = 0) : ¬ bad := fun hb => by have := hp_ck_y h hb; omega
theorem hp_ck_lt {bad : Prop} {k : Nat} (h : hp_ck bad k) : k < 4 := by rcases h with h | h <;> omega
theorem hp_lk_y {M : hp_S} {bad : Prop} {o : Nat} {i : Int32} {ok : Prop} {k : Nat} (h : hp_lk M bad o i ok k) (hb : bad) : k = 1 := (h.resolve_right (fun z => z.1 hb)).2
theorem hp_lk_n {M : hp_S} {bad : Prop} {o : Nat} {i : Int32} {ok : Prop} {k : Nat} (h : hp_lk M bad o i ok k) (hb : ¬ bad) : hp_cd M o i ok k := (h.resolve_left (fun z => hb z.1)).2
theorem hp_lk_lt {M : hp_S} {bad : Prop} {o : Nat} {i : Int32} {ok : Prop} {k : Nat} (h : hp_lk M bad o i ok k) : k < 4 := by
  rcases h with h | ⟨-, h⟩
  · omega
  · rcases h with h | h | h
    · omega
    · omega
    · have := h.2.2.2; omega
/-- all is well: no register is bad, the object is there, its kind fits, the index is in range -/
theorem hp_lk_0 {M : hp_S} {bad : Prop} {o : Nat} {i : Int32} {ok : Prop} {k : Nat} (h : hp_lk M bad o i ok k) (h0 : k = 0) : ¬ bad ∧ o ≠ 0 ∧ ok ∧ ¬ hp_bad i (hp_z M o) := by
  rcases h with ⟨-, h⟩ | ⟨hb, h⟩
  · omega
  · rcases h with ⟨-, h⟩ | ⟨-, -, h⟩ | ⟨h1, h2, h3, -⟩
    · omega
    · omega
    · exact ⟨hb, h1, h2, h3⟩
theorem hp_k0 {k : Nat} (h : k < 4) : nI k = 0 ↔ k = 0 := ⟨fun e => (nI_eq (b := 0) (by omega) (by decide)).mp (e.trans nI_0.symm), fun e => by rw [e]; exact nI_0⟩
theorem hp_in3 {M : hp_S} (hW : hp_W M) {r : Nat} (h : r < 16) : hp_r M r ≤ 300 := (hW.2.2.2.1 r h).elim (fun e => by omega) (fun e => (hW.2.1 _ e).2.1)
theorem hp_r0 {M : hp_S} (hW : hp_W M) {r : Nat} (h : r < 16) : nI (hp_r M r) = 0 ↔ hp_r M r = 0 := by
  have := hp_in3 hW h
  exact ⟨fun e => (nI_eq (b := 0) (by omega) (by decide)).mp (e.trans nI_0.symm), fun e => by rw [e]; exact nI_0⟩
theorem hp_atE {M : hp_S} {r : Int32} {j : Nat} (h : r = nI j) (hj : j < 16) : hp_at M r = hp_r M j := by rw [h]; exact hp_at_n hj
theorem hp_cl {i : Int32} {q n : Nat} (h : i = nI q) (hq : q < n) (hn : n ≤ 40) : i.toNatClampNeg = q := by rw [h]; exact nI_clamp (by omega)
