theorem hp_e_ix {M : hp_S} (hW : hp_W M) {o : Nat} (ho : o = 0 ∨ o ∈ hp_L M) : hp_e M o = -1 ∨ ∃ j : Nat, j < 300 ∧ hp_e M o = nI j := by
  by_cases h0 : o = 0
  · exact Or.inl (by rw [h0]; exact hp_e0 M)
  · exact Or.inr ⟨hp_pl M o, by have := hp_pl_lt hW (ho.resolve_left h0); omega, hp_en h0⟩
theorem hp_L_len {M : hp_S} (hW : hp_W M) : (hp_L M).length ≤ 300 := Nat.le_trans (hp_len _ _) hW.2.2.2.2.2
theorem hp_take {R : List Nat} {k o : Nat} (h : R[k]? = some o) : R.take (k + 1) = R.take k ++ [o] := by
  rw [List.take_succ, h]; rfl
theorem hp_take_not {R : List Nat} {k o : Nat} (hR : R.Nodup) (h : R[k]? = some o) : o ∉ R.take k := by
  have h1 : (R.take (k + 1)).Nodup := List.Pairwise.sublist (List.take_sublist _ _) hR
  rw [hp_take h, List.nodup_append] at h1
  exact fun e => h1.2.2 o e o (by simp) rfl
theorem hp_take_all {R : List Nat} {k : Nat} (h : R.length ≤ k) : R.take k = R := List.take_of_length_le h
theorem hp_X_0 {M : hp_S} {ce : Nat → Int64} {rg : Nat → Int32} {tk ob co : Int32} (h : hp_C M ce rg tk ob co) : hp_X M [] ce := fun o ho => ⟨(h.2.2.2.2 o ho).1, fun i hi => by rw [(h.2.2.2.2 o ho).2 i hi]; simp⟩
theorem hp_nb {M : hp_S} (hW : hp_W M) {np : Nat → Int32} {o : Nat} (ho : o ∈ hp_L M) {x : Nat} (hx : x < 2 ^ 31) (h : np (hp_pl M o) = if hp_b M o = true then nI x else -1) : np (hp_pl M o) = -1 ↔ ¬ hp_b M o = true := by
  rw [h]
  by_cases hb : hp_b M o = true
  · rw [if_pos hb]
    exact ⟨fun e => absurd e (hp_neg1 hx), fun e => absurd hb e⟩
  · rw [if_neg hb]
    exact ⟨fun _ => hb, fun _ => rfl⟩
theorem hp_new_lt {M : hp_S} (hW : hp_W M) {o : Nat} (h : hp_b M o = true) : hp_pl (hp_col M) o + (1 + hp_z M o) ≤ 300 := hp_pl_lt (M := hp_col M) (hp_col_W hW) ((hp_in2 hW).mpr h)
theorem hp_new_lt' {M : hp_S} (hW : hp_W M) (o : Nat) : hp_p (hp_z M) (hp_L2 M) o < 2 ^ 31 := by
  by_cases h : hp_b M o = true
  · have := hp_new_lt hW h
    have e : hp_pl (hp_col M) o = hp_p (hp_z M) (hp_L2 M) o := rfl
    omega
  · have h2 : ∀ (l : List Nat) (x : Nat), hp_p (hp_z M) l x ≤ hp_t (hp_z M) l := by
      intro l
      induction l with
      | nil => intro x; exact Nat.le_refl _
      | cons a l ih => intro x; have := ih x; simp only [hp_p, hp_t]; split <;> omega
    have h3 := h2 (hp_L2 M) o
    have h4 := hp_t_filter (hp_z M) (hp_b M) (hp_L M)
    have h5 := hW.2.2.2.2.2
    have h6 : hp_t (hp_z M) (hp_L2 M) ≤ hp_t (hp_z M) (hp_L M) := h4
    have h7 : hp_tk M = hp_t (hp_z M) (hp_L M) := rfl
    omega
