def hp_st (M : hp_S) (o w : Nat) : Int32 := if w = 0 then (if o = 0 then 0 else nI (hp_k M o)) else if o = 0 then -1 else if w = 1 then nI (hp_pl M o) else nI (hp_z M o)
def hp_ct (M : hp_S) (x : Int32) : Int32 := if x = 0 then nI (hp_tk M) else if x = 1 then nI (hp_L M).length else if x = 2 then hp_c M else -1
theorem hp_sw {x : Int32} (h0 : ¬ x = 0) (h1 : ¬ x = 1) (h2 : ¬ x = 2) : x.toInt < 0 ∨ 2 < x.toInt := by
  by_cases ha : x.toInt < 0
  · exact Or.inl ha
  · refine Or.inr (Classical.byContradiction fun hb => ?_)
    have h : x.toInt = 0 ∨ x.toInt = 1 ∨ x.toInt = 2 := by omega
    rcases h with h | h | h
    · exact h0 (Int32.toInt_inj.mp h)
    · exact h1 (Int32.toInt_inj.mp h)
    · exact h2 (Int32.toInt_inj.mp h)
theorem hp_uu (f : Nat → Int64) (p : Nat) (x y : Int64) : vp_updL (vp_updL f p x) p y = vp_updL f p y := by
  funext j
  by_cases e : j = p
  · subst e; rw [pk_uLs, pk_uLs]
  · rw [pk_uLn e, pk_uLn e, pk_uLn e]
/-- the first content of a new object, as the program writes it -/
def hp_f0 (k : Nat) : Int64 := if k = 2 then 0 else -1
/-- behind make: the new object's cells are written up to i -/
def hp_mw (M : hp_S) (n k : Nat) (ce1 ce : Nat → Int64) (i : Nat) : Prop := (∀ j, j < hp_tk M → ce j = ce1 j) ∧ ce (hp_tk M) = lN (4 * n + k) ∧ ∀ q, q < i → ce (hp_tk M + (1 + q)) = hp_f0 k
theorem hp_mw_0 (M : hp_S) (n k : Nat) (ce1 : Nat → Int64) : hp_mw M n k ce1 (vp_updL ce1 (hp_tk M) (lN (4 * n + k))) 0 :=
  ⟨fun j hj => pk_uLn (by omega), pk_uLs, fun q hq => absurd hq (Nat.not_lt_zero _)⟩
theorem hp_mw_s {M : hp_S} {n k : Nat} {ce1 ce : Nat → Int64} {i : Nat} (h : hp_mw M n k ce1 ce i) : hp_mw M n k ce1 (vp_updL ce (hp_tk M + (1 + i)) (hp_f0 k)) (i + 1) := by
  obtain ⟨h1, h2, h3⟩ := h
  refine ⟨fun j hj => by rw [pk_uLn (by omega)]; exact h1 j hj, by rw [pk_uLn (by omega)]; exact h2, fun q hq => ?_⟩
  by_cases e : q = i
  · subst e; exact pk_uLs
  · rw [pk_uLn (by omega)]; exact h3 q (by omega)
theorem hp_mk_done {M : hp_S} (hW : hp_W M) {n k j : Nat} {ce1 ce : Nat → Int64} {rg : Nat → Int32} {tk1 ob1 co : Int32} (hC : hp_C M ce1 rg tk1 ob1 co) (h : hp_mw M n k ce1 ce n) (o : Nat) (ho : o ∉ hp_L M) (h1 : 1 ≤ o) :
    hp_C (hp_sr (hp_mk M o k n) j o) ce (upd rg j (nI (hp_tk M))) (nI (hp_tk M + (1 + n))) (nI ((hp_L M).length + 1)) co := by
  have h9 := hp_sr_C (hp_mk_C (ce' := ce) hW hC (o := o) (k := k) (n := n) ho h.1 h.2.1 (fun i hi => h.2.2 i hi)) j o
  rw [hp_mk_eo ho h1] at h9
  exact h9
theorem hp_wk_done {M : hp_S} (hW : hp_W M) {j : Nat} {ce1 : Nat → Int64} {rg : Nat → Int32} {tk1 ob1 co : Int32} (hC : hp_C M ce1 rg tk1 ob1 co) (x : Nat) (hx : x = 0 ∨ x ∈ hp_L M) (o : Nat) (ho : o ∉ hp_L M) (h1 : 1 ≤ o) :
    hp_C (hp_sr (hp_sl (hp_mk M o 3 1) o 0 x) j o) (vp_updL (vp_updL ce1 (hp_tk M) (lN (4 * 1 + 3))) (hp_tk M + 1) (hp_e M x).toInt64) (upd rg j (nI (hp_tk M))) (nI (hp_tk M + (1 + 1))) (nI ((hp_L M).length + 1)) co := by
  have hm := hp_mw_s (hp_mw_0 M 1 3 ce1)
  have hin : o ∈ hp_L (hp_mk M o 3 1) := List.mem_append.mpr (Or.inr (by simp))
  have ek : hp_k (hp_mk M o 3 1) o = 3 := va_up_self _ _ _
  have ez : hp_z (hp_mk M o 3 1) o = 1 := va_up_self _ _ _
  have h8 := hp_sl_C (x := x) (hp_mk_C (ce' := _) hW hC (o := o) (k := 3) (n := 1) ho hm.1 hm.2.1 (fun i hi => hm.2.2 i hi)) hin (by rw [ek]; decide) (i := 0) (by rw [ez]; decide)
  rw [hp_mk_plo ho, hp_uu, hp_mk_e ho hx] at h8
  have h9 := hp_sr_C h8 j o
  have e : hp_e (hp_sl (hp_mk M o 3 1) o 0 x) o = nI (hp_tk M) := hp_mk_eo (k := 3) ho h1
  rw [e] at h9
  exact h9
theorem hp_rm_r (M : hp_S) (n : Nat) : hp_r (hp_rm M n) = hp_r M := by
  unfold hp_rm; split <;> rfl
/-- a new heap -/
def hp_0 : hp_S := ([], fun _ => 0, fun _ => 0, fun _ _ => 0, fun _ _ => 0, fun _ => 0, 0)
theorem hp_0_W : hp_W hp_0 := ⟨List.nodup_nil, fun o ho => absurd ho List.not_mem_nil, fun o _ => rfl, fun r _ => Or.inl rfl, fun o ho => absurd ho List.not_mem_nil, Nat.zero_le _⟩
theorem hp_0_C {ce : Nat → Int64} {rg : Nat → Int32} (h : ∀ r, r < 16 → rg r = -1) : hp_C hp_0 ce rg 0 0 0 := ⟨nI_0.symm, nI_0.symm, rfl, fun r hr => by rw [h r hr]; rfl, fun o ho => absurd ho List.not_mem_nil⟩
