/-! places and sizes: an object of n contents takes 1 + n cells; z: n by the object's number -/
def hp_t (z : Nat → Nat) : List Nat → Nat
  | [] => 0
  | o :: l => (1 + z o) + hp_t z l
def hp_p (z : Nat → Nat) : List Nat → Nat → Nat
  | [], _ => 0
  | a :: l, o => if a = o then 0 else (1 + z a) + hp_p z l o
theorem hp_t_app (z : Nat → Nat) : ∀ a b : List Nat, hp_t z (a ++ b) = hp_t z a + hp_t z b
  | [], b => by simp [hp_t]
  | o :: a, b => by simp only [List.cons_append, hp_t, hp_t_app z a b]; omega
theorem hp_len (z : Nat → Nat) : ∀ l : List Nat, l.length ≤ hp_t z l
  | [] => Nat.le_refl _
  | o :: l => by have := hp_len z l; simp only [List.length_cons, hp_t]; omega
theorem hp_p_r {z : Nat → Nat} {o : Nat} : ∀ {a : List Nat} (b : List Nat), o ∉ a → hp_p z (a ++ b) o = hp_t z a + hp_p z b o
  | [], b, _ => by simp [hp_t]
  | x :: a, b, h => by
    have h1 : x ≠ o := fun e => h (e ▸ List.mem_cons_self)
    have h2 : o ∉ a := fun m => h (List.mem_cons_of_mem _ m)
    simp only [List.cons_append, hp_p, hp_t, if_neg h1, hp_p_r b h2]; omega
theorem hp_p_l {z : Nat → Nat} {o : Nat} : ∀ {a : List Nat} (b : List Nat), o ∈ a → hp_p z (a ++ b) o = hp_p z a o
  | [], b, h => by cases h
  | x :: a, b, h => by
    by_cases h1 : x = o
    · simp only [List.cons_append, hp_p, if_pos h1]
    · have h2 : o ∈ a := by
        rcases List.mem_cons.mp h with e | e
        · exact absurd e.symm h1
        · exact e
      simp only [List.cons_append, hp_p, if_neg h1, hp_p_l b h2]
theorem hp_p_at {z : Nat → Nat} {o : Nat} {a b : List Nat} (h : o ∉ a) : hp_p z (a ++ o :: b) o = hp_t z a := by
  rw [hp_p_r _ h]; simp [hp_p]
theorem hp_p_in {z : Nat → Nat} {o : Nat} : ∀ {l : List Nat}, o ∈ l → hp_p z l o + (1 + z o) ≤ hp_t z l
  | [], h => by cases h
  | x :: l, h => by
    by_cases h1 : x = o
    · subst h1; simp only [hp_p, hp_t, if_true]; omega
    · have h2 : o ∈ l := by
        rcases List.mem_cons.mp h with e | e
        · exact absurd e.symm h1
        · exact e
      have := hp_p_in (z := z) h2
      simp only [hp_p, hp_t, if_neg h1]; omega
theorem hp_p_ne {z : Nat → Nat} {o o' : Nat} (hn : o ≠ o') : ∀ {l : List Nat}, o ∈ l → o' ∈ l → hp_p z l o + (1 + z o) ≤ hp_p z l o' ∨ hp_p z l o' + (1 + z o') ≤ hp_p z l o
  | [], h, _ => by cases h
  | x :: l, h, h' => by
    by_cases h1 : x = o
    · subst h1
      left
      simp only [hp_p, if_true, if_neg hn]; omega
    · by_cases h2 : x = o'
      · subst h2
        right
        simp only [hp_p, if_true, if_neg h1]; omega
      · have g1 : o ∈ l := by
          rcases List.mem_cons.mp h with e | e
          · exact absurd e.symm h1
          · exact e
        have g2 : o' ∈ l := by
          rcases List.mem_cons.mp h' with e | e
          · exact absurd e.symm h2
          · exact e
        have := hp_p_ne (z := z) hn g1 g2
        simp only [hp_p, if_neg h1, if_neg h2]; omega
theorem hp_p_inj {z : Nat → Nat} {o o' : Nat} {l : List Nat} (h : o ∈ l) (h' : o' ∈ l) (e : hp_p z l o = hp_p z l o') : o = o' := by
  by_cases hn : o = o'
  · exact hn
  · have := hp_p_ne (z := z) hn h h'; omega
/-- cells of different objects are different -/
theorem hp_p_cell {z : Nat → Nat} {o o' i j : Nat} {l : List Nat} (h : o ∈ l) (h' : o' ∈ l) (hi : i < 1 + z o) (hj : j < 1 + z o') (e : hp_p z l o + i = hp_p z l o' + j) : o = o' ∧ i = j := by
  by_cases hn : o = o'
  · subst hn; exact ⟨rfl, by omega⟩
  · have := hp_p_ne (z := z) hn h h'; omega
theorem hp_t_congr {z z' : Nat → Nat} : ∀ {l : List Nat}, (∀ o ∈ l, z o = z' o) → hp_t z l = hp_t z' l
  | [], _ => rfl
  | o :: l, h => by
    have h1 := h o List.mem_cons_self
    have h2 := hp_t_congr (l := l) (fun o ho => h o (List.mem_cons_of_mem _ ho))
    simp only [hp_t, h1, h2]
theorem hp_p_congr {z z' : Nat → Nat} {o : Nat} : ∀ {l : List Nat}, (∀ o ∈ l, z o = z' o) → hp_p z l o = hp_p z' l o
  | [], _ => rfl
  | x :: l, h => by
    have h1 := h x List.mem_cons_self
    have h2 := hp_p_congr (l := l) (o := o) (fun o ho => h o (List.mem_cons_of_mem _ ho))
    simp only [hp_p, h1, h2]
theorem hp_t_filter (z : Nat → Nat) (b : Nat → Bool) : ∀ l : List Nat, hp_t z (l.filter b) ≤ hp_t z l
  | [] => Nat.le_refl _
  | o :: l => by
    have := hp_t_filter z b l
    cases h : b o
    · rw [List.filter_cons_of_neg (by simp [h])]; simp only [hp_t]; omega
    · rw [List.filter_cons_of_pos h]; simp only [hp_t]; omega
theorem hp_not_in {o : Nat} {a b : List Nat} (h : (a ++ o :: b).Nodup) : o ∉ a ∧ o ∉ b := by
  rw [List.nodup_append] at h
  exact ⟨fun m => h.2.2 o m o List.mem_cons_self rfl, (List.nodup_cons.mp h.2.1).1⟩
/-- a part of a list without doubles is no longer -/
theorem hp_sub_len : ∀ {R L : List Nat}, R.Nodup → (∀ o ∈ R, o ∈ L) → R.length ≤ L.length
  | [], _, _, _ => Nat.zero_le _
  | o :: R, L, h, hs => by
    obtain ⟨h1, h2⟩ := List.nodup_cons.mp h
    have ho : o ∈ L := hs o List.mem_cons_self
    have h3 : R.length ≤ (L.erase o).length := hp_sub_len h2 (fun x hx => (List.mem_erase_of_ne (fun e : x = o => h1 (e ▸ hx))).mpr (hs x (List.mem_cons_of_mem _ hx)))
    have h4 := List.length_erase_of_mem ho
    have h5 : 0 < L.length := List.length_pos_of_mem ho
    simp only [List.length_cons]; omega
/-- where there is a place left, the new one is a longer one -/
theorem hp_sub_lt {R L : List Nat} {o : Nat} (h : R.Nodup) (hs : ∀ o ∈ R, o ∈ L) (ho : o ∈ L) (hn : o ∉ R) : R.length < L.length := by
  have := hp_sub_len (R := o :: R) (L := L) (List.nodup_cons.mpr ⟨hn, h⟩) (fun x hx => by
    rcases List.mem_cons.mp hx with e | e
    · exact e ▸ ho
    · exact hs x e)
  simp only [List.length_cons] at this; omega
/-- a number of 1 .. N that isn't in a shorter list -/
theorem hp_free {N : Nat} {L : List Nat} (h : L.length < N) : ∃ o, 1 ≤ o ∧ o ≤ N ∧ o ∉ L := by
  refine Classical.byContradiction fun hn => ?_
  have h1 : ∀ o ∈ List.range' 1 N, o ∈ L := fun o ho => by
    rw [List.mem_range'_1] at ho
    refine Classical.byContradiction fun hx => hn ⟨o, by omega, by omega, hx⟩
  have h2 := hp_sub_len (List.nodup_range' (s := 1) (n := N)) h1
  rw [List.length_range'] at h2
  omega
