def hp_tt (S T : List Nat) (o : Nat) : List Nat := if o = 0 ∨ o ∈ S then T else T ++ [o]
theorem hp_nt_y {S : List Nat} {o : Nat} (h : o = 0 ∨ o ∈ S) : hp_nt S o = S := if_pos h
theorem hp_nt_n {S : List Nat} {o : Nat} (h : ¬ (o = 0 ∨ o ∈ S)) : hp_nt S o = S ++ [o] := if_neg h
theorem hp_tt_y {S T : List Nat} {o : Nat} (h : o = 0 ∨ o ∈ S) : hp_tt S T o = T := if_pos h
theorem hp_tt_n {S T : List Nat} {o : Nat} (h : ¬ (o = 0 ∨ o ∈ S)) : hp_tt S T o = T ++ [o] := if_neg h
theorem hp_Y_reach {M : hp_S} {S T : List Nat} {o i x : Nat} (h : hp_Y M S T o i) (hx : x = 0 ∨ hp_R M x) : hp_Y M (hp_nt S x) (hp_tt S T x) o i := by
  by_cases hc : x = 0 ∨ x ∈ S
  · rw [hp_nt_y hc, hp_tt_y hc]; exact h
  · rw [hp_nt_n hc, hp_tt_n hc]
    exact hp_Y_push h (hx.resolve_left (fun e => hc (Or.inl e)))
theorem hp_nt_self {S : List Nat} {x : Nat} (h : x ≠ 0) : x ∈ hp_nt S x := (hp_nt_in S x x).mpr (Or.inr ⟨rfl, h⟩)
theorem hp_nt_old {S : List Nat} {x y : Nat} (h : y ∈ S) : y ∈ hp_nt S x := (hp_nt_in S x y).mpr (Or.inl h)
theorem hp_last {T : List Nat} (h : 0 < T.length) : ∃ T2 o, T = T2 ++ [o] := by
  have hn : T ≠ [] := fun e => by rw [e] at h; exact absurd h (Nat.lt_irrefl _)
  exact ⟨T.dropLast, T.getLast hn, (List.dropLast_concat_getLast hn).symm⟩
/-- what the marks still to come cost -/
theorem hp_cost {S T : List Nat} {x : Nat} (h : (hp_nt S x).length ≤ 300) (hS : S.length ≤ 300) : 2 * (300 - (hp_nt S x).length) + (hp_tt S T x).length ≤ 2 * (300 - S.length) + T.length := by
  by_cases hc : x = 0 ∨ x ∈ S
  · rw [hp_nt_y hc, hp_tt_y hc]; exact Nat.le_refl _
  · rw [hp_nt_n hc] at h ⊢
    rw [hp_tt_n hc]
    simp only [List.length_append, List.length_cons, List.length_nil] at h ⊢
    omega
theorem hp_40i (o i : Nat) : (40 : Int32) * nI o + nI i = nI (40 * o + i) := by
  rw [show (40 : Int32) = nI 40 from by decide +kernel, pk_mul, nI_add]
theorem hp_40o (o : Nat) : (40 : Int32) * nI o = nI (40 * o) := by
  rw [show (40 : Int32) = nI 40 from by decide +kernel, pk_mul]
theorem hp_gone_t (M : hp_S) (pre : List Nat) {o : Nat} (h : hp_b M o = true) : (pre ++ [o]).length - ((pre ++ [o]).filter (hp_b M)).length = pre.length - (pre.filter (hp_b M)).length := by
  rw [hp_filter_t M pre h]
  simp only [List.length_append, List.length_cons, List.length_nil]; omega
theorem hp_gone_f (M : hp_S) (pre : List Nat) {o : Nat} (h : ¬ hp_b M o = true) : (pre ++ [o]).length - ((pre ++ [o]).filter (hp_b M)).length = pre.length - (pre.filter (hp_b M)).length + 1 := by
  rw [hp_filter_f M pre h]
  have := hp_filter_len (hp_b M) pre
  simp only [List.length_append, List.length_cons, List.length_nil]; omega
/-- the references of a kept object, behind the sweep's look at it -/
def hp_lw (M : hp_S) (o : Nat) (lk lk' : Nat → Int32) : Prop := (∀ x i, x ≠ o → i < 40 → lk' (40 * x + i) = lk (40 * x + i)) ∧ (hp_k M o ≠ 2 → ∀ i, i < hp_z M o → lk' (40 * o + i) = nI (hp_l (hp_col M) o i))
theorem hp_lw_k {M : hp_S} {o : Nat} {lk : Nat → Int32} (h : hp_k M o ≠ 3) (hl : hp_k M o ≠ 2 → ∀ i, i < hp_z M o → lk (40 * o + i) = nI (hp_l M o i)) : hp_lw M o lk lk :=
  ⟨fun _ _ _ _ => rfl, fun h2 i hi => by
    rw [hl h2 i hi]
    have e : hp_l (hp_col M) o i = hp_l M o i := if_neg (fun z => h z.1)
    rw [e]⟩
theorem hp_lw_t {M : hp_S} (hW : hp_W M) {o : Nat} {lk : Nat → Int32} (ho : o ∈ hp_L M) (h : hp_k M o = 3) (hl : hp_k M o ≠ 2 → ∀ i, i < hp_z M o → lk (40 * o + i) = nI (hp_l M o i)) (hb : hp_b M (hp_l M o 0) = true) : hp_lw M o lk lk :=
  ⟨fun _ _ _ _ => rfl, fun h2 i hi => by
    have hz := (hW.2.1 o ho).2.2.2.2.2 h
    have i0 : i = 0 := by omega
    subst i0
    rw [hl h2 0 hi]
    have e : hp_l (hp_col M) o 0 = hp_l M o 0 := if_neg (fun z => by rw [hb] at z; cases z.2)
    rw [e]⟩
theorem hp_lw_f {M : hp_S} (hW : hp_W M) {o : Nat} {lk : Nat → Int32} (ho : o ∈ hp_L M) (h : hp_k M o = 3) (hb : ¬ hp_b M (hp_l M o 0) = true) : hp_lw M o lk (upd lk (40 * o) 0) :=
  ⟨fun x i hx hi => pk_un (by omega), fun h2 i hi => by
    have hz := (hW.2.1 o ho).2.2.2.2.2 h
    have i0 : i = 0 := by omega
    subst i0
    have hb2 : hp_b M (hp_l M o 0) = false := by cases e : hp_b M (hp_l M o 0); · rfl
                                                 · exact absurd e hb
    have e : hp_l (hp_col M) o 0 = 0 := if_pos ⟨h, hb2⟩
    rw [e, Nat.add_zero, pk_us, nI_0]⟩
