section
/-! places and sizes: an object of n contents takes 1 + n cells; z: n by the object's number -/
def hp_t (z : Nat → Nat) : List Nat → Nat
  | [] => 0
  | o :: l => (1 + z o) + hp_t z l
def hp_p (z : Nat → Nat) : List Nat → Nat → Nat
  | [], _ => 0
  | a :: l, o => if a = o then 0 else (1 + z a) + hp_p z l o
theorem hp_t_app (z : Nat → Nat) : ∀ a b : List Nat, hp_t z (a ++ b) = hp_t z a + hp_t z b
  | [], b => by simp [hp_t]
  | o :: a, b => by simp only [List.cons_append, hp_t, hp_t_app z a b]; omega
theorem hp_len (z : Nat → Nat) : ∀ l : List Nat, l.length ≤ hp_t z l
  | [] => Nat.le_refl _
  | o :: l => by have := hp_len z l; simp only [List.length_cons, hp_t]; omega
theorem hp_p_r {z : Nat → Nat} {o : Nat} : ∀ {a : List Nat} (b : List Nat), o ∉ a → hp_p z (a ++ b) o = hp_t z a + hp_p z b o
  | [], b, _ => by simp [hp_t]
  | x :: a, b, h => by
    have h1 : x ≠ o := fun e => h (e ▸ List.mem_cons_self)
    have h2 : o ∉ a := fun m => h (List.mem_cons_of_mem _ m)
    simp only [List.cons_append, hp_p, hp_t, if_neg h1, hp_p_r b h2]; omega
theorem hp_p_l {z : Nat → Nat} {o : Nat} : ∀ {a : List Nat} (b : List Nat), o ∈ a → hp_p z (a ++ b) o = hp_p z a o
  | [], b, h => by cases h
  | x :: a, b, h => by
    by_cases h1 : x = o
    · simp only [List.cons_append, hp_p, if_pos h1]
    · have h2 : o ∈ a := by
        rcases List.mem_cons.mp h with e | e
        · exact absurd e.symm h1
        · exact e
      simp only [List.cons_append, hp_p, if_neg h1, hp_p_l b h2]
theorem hp_p_at {z : Nat → Nat} {o : Nat} {a b : List Nat} (h : o ∉ a) : hp_p z (a ++ o :: b) o = hp_t z a := by
  rw [hp_p_r _ h]; simp [hp_p]
theorem hp_p_in {z : Nat → Nat} {o : Nat} : ∀ {l : List Nat}, o ∈ l → hp_p z l o + (1 + z o) ≤ hp_t z l
  | [], h => by cases h
  | x :: l, h => by
    by_cases h1 : x = o
    · subst h1; simp only [hp_p, hp_t, if_true]; omega
    · have h2 : o ∈ l := by
        rcases List.mem_cons.mp h with e | e
        · exact absurd e.symm h1
        · exact e
      have := hp_p_in (z := z) h2
      simp only [hp_p, hp_t, if_neg h1]; omega
theorem hp_p_ne {z : Nat → Nat} {o o' : Nat} (hn : o ≠ o') : ∀ {l : List Nat}, o ∈ l → o' ∈ l → hp_p z l o + (1 + z o) ≤ hp_p z l o' ∨ hp_p z l o' + (1 + z o') ≤ hp_p z l o
  | [], h, _ => by cases h
  | x :: l, h, h' => by
    by_cases h1 : x = o
    · subst h1
      left
      simp only [hp_p, if_true, if_neg hn]; omega
    · by_cases h2 : x = o'
      · subst h2
        right
        simp only [hp_p, if_true, if_neg h1]; omega
      · have g1 : o ∈ l := by
          rcases List.mem_cons.mp h with e | e
          · exact absurd e.symm h1
          · exact e
        have g2 : o' ∈ l := by
          rcases List.mem_cons.mp h' with e | e
          · exact absurd e.symm h2
          · exact e
        have := hp_p_ne (z := z) hn g1 g2
        simp only [hp_p, if_neg h1, if_neg h2]; omega
theorem hp_p_inj {z : Nat → Nat} {o o' : Nat} {l : List Nat} (h : o ∈ l) (h' : o' ∈ l) (e : hp_p z l o = hp_p z l o') : o = o' := by
  by_cases hn : o = o'
  · exact hn
  · have := hp_p_ne (z := z) hn h h'; omega
/-- cells of different objects are different -/
theorem hp_p_cell {z : Nat → Nat} {o o' i j : Nat} {l : List Nat} (h : o ∈ l) (h' : o' ∈ l) (hi : i < 1 + z o) (hj : j < 1 + z o') (e : hp_p z l o + i = hp_p z l o' + j) : o = o' ∧ i = j := by
  by_cases hn : o = o'
  · subst hn; exact ⟨rfl, by omega⟩
  · have := hp_p_ne (z := z) hn h h'; omega
theorem hp_t_congr {z z' : Nat → Nat} : ∀ {l : List Nat}, (∀ o ∈ l, z o = z' o) → hp_t z l = hp_t z' l
  | [], _ => rfl
  | o :: l, h => by
    have h1 := h o List.mem_cons_self
    have h2 := hp_t_congr (l := l) (fun o ho => h o (List.mem_cons_of_mem _ ho))
    simp only [hp_t, h1, h2]
theorem hp_p_congr {z z' : Nat → Nat} {o : Nat} : ∀ {l : List Nat}, (∀ o ∈ l, z o = z' o) → hp_p z l o = hp_p z' l o
  | [], _ => rfl
  | x :: l, h => by
    have h1 := h x List.mem_cons_self
    have h2 := hp_p_congr (l := l) (o := o) (fun o ho => h o (List.mem_cons_of_mem _ ho))
    simp only [hp_p, h1, h2]
theorem hp_t_filter (z : Nat → Nat) (b : Nat → Bool) : ∀ l : List Nat, hp_t z (l.filter b) ≤ hp_t z l
  | [] => Nat.le_refl _
  | o :: l => by
    have := hp_t_filter z b l
    cases h : b o
    · rw [List.filter_cons_of_neg (by simp [h])]; simp only [hp_t]; omega
    · rw [List.filter_cons_of_pos h]; simp only [hp_t]; omega
theorem hp_not_in {o : Nat} {a b : List Nat} (h : (a ++ o :: b).Nodup) : o ∉ a ∧ o ∉ b := by
  rw [List.nodup_append] at h
  exact ⟨fun m => h.2.2 o m o List.mem_cons_self rfl, (List.nodup_cons.mp h.2.1).1⟩
/-- a part of a list without doubles is no longer -/
theorem hp_sub_len : ∀ {R L : List Nat}, R.Nodup → (∀ o ∈ R, o ∈ L) → R.length ≤ L.length
  | [], _, _, _ => Nat.zero_le _
  | o :: R, L, h, hs => by
    obtain ⟨h1, h2⟩ := List.nodup_cons.mp h
    have ho : o ∈ L := hs o List.mem_cons_self
    have h3 : R.length ≤ (L.erase o).length := hp_sub_len h2 (fun x hx => (List.mem_erase_of_ne (fun e : x = o => h1 (e ▸ hx))).mpr (hs x (List.mem_cons_of_mem _ hx)))
    have h4 := List.length_erase_of_mem ho
    have h5 : 0 < L.length := List.length_pos_of_mem ho
    simp only [List.length_cons]; omega
/-- where there is a place left, the new one is a longer one -/
theorem hp_sub_lt {R L : List Nat} {o : Nat} (h : R.Nodup) (hs : ∀ o ∈ R, o ∈ L) (ho : o ∈ L) (hn : o ∉ R) : R.length < L.length := by
  have := hp_sub_len (R := o :: R) (L := L) (List.nodup_cons.mpr ⟨hn, h⟩) (fun x hx => by
    rcases List.mem_cons.mp hx with e | e
    · exact e ▸ ho
    · exact hs x e)
  simp only [List.length_cons] at this; omega
/-- a number of 1 .. N that isn't in a shorter list -/
theorem hp_free {N : Nat} {L : List Nat} (h : L.length < N) : ∃ o, 1 ≤ o ∧ o ≤ N ∧ o ∉ L := by
  refine Classical.byContradiction fun hn => ?_
  have h1 : ∀ o ∈ List.range' 1 N, o ∈ L := fun o ho => by
    rw [List.mem_range'_1] at ho
    refine Classical.byContradiction fun hx => hn ⟨o, by omega, by omega, hx⟩
  have h2 := hp_sub_len (List.nodup_range' (s := 1) (n := N)) h1
  rw [List.length_range'] at h2
  omega
end
section
/-! what a heap is: the objects' numbers in the order of their places; kind, size, references, longs by number; the registers; how often collected -/
abbrev hp_S : Type := List Nat × (Nat → Nat) × (Nat → Nat) × (Nat → Nat → Nat) × (Nat → Nat → Int64) × (Nat → Nat) × Int32
abbrev hp_L (M : hp_S) : List Nat := M.1
abbrev hp_k (M : hp_S) : Nat → Nat := M.2.1
abbrev hp_z (M : hp_S) : Nat → Nat := M.2.2.1
abbrev hp_l (M : hp_S) : Nat → Nat → Nat := M.2.2.2.1
abbrev hp_n (M : hp_S) : Nat → Nat → Int64 := M.2.2.2.2.1
abbrev hp_r (M : hp_S) : Nat → Nat := M.2.2.2.2.2.1
abbrev hp_c (M : hp_S) : Int32 := M.2.2.2.2.2.2
/-- the place of object o -/
abbrev hp_pl (M : hp_S) (o : Nat) : Nat := hp_p (hp_z M) (hp_L M) o
/-- the cells taken -/
abbrev hp_tk (M : hp_S) : Nat := hp_t (hp_z M) (hp_L M)
def hp_W (M : hp_S) : Prop :=
  (hp_L M).Nodup ∧ (∀ o ∈ hp_L M, 1 ≤ o ∧ o ≤ 300 ∧ 1 ≤ hp_k M o ∧ hp_k M o ≤ 3 ∧ hp_z M o ≤ 40 ∧ (hp_k M o = 3 → hp_z M o = 1)) ∧ (∀ o, o ∉ hp_L M → hp_k M o = 0) ∧
  (∀ r, r < 16 → hp_r M r = 0 ∨ hp_r M r ∈ hp_L M) ∧ (∀ o ∈ hp_L M, hp_k M o ≠ 2 → ∀ i, i < hp_z M o → hp_l M o i = 0 ∨ hp_l M o i ∈ hp_L M) ∧ hp_tk M ≤ 300
/-- reached: by a register, or by a LINKS that is reached -/
def hp_R (M : hp_S) (o : Nat) : Prop := ∀ P : Nat → Prop, (∀ r, r < 16 → hp_r M r ≠ 0 → P (hp_r M r)) → (∀ a i, P a → hp_k M a = 1 → i < hp_z M a → hp_l M a i ≠ 0 → P (hp_l M a i)) → P o
theorem hp_R.reg {M : hp_S} {r : Nat} (h : r < 16) (hn : hp_r M r ≠ 0) : hp_R M (hp_r M r) := fun _ h1 _ => h1 r h hn
theorem hp_R.step {M : hp_S} {a i : Nat} (h : hp_R M a) (hk : hp_k M a = 1) (hi : i < hp_z M a) (hn : hp_l M a i ≠ 0) : hp_R M (hp_l M a i) := fun P h1 h2 => h2 a i (h P h1 h2) hk hi hn
theorem hp_R.in {M : hp_S} (hW : hp_W M) {o : Nat} (h : hp_R M o) : o ∈ hp_L M := by
  refine h (fun o => o ∈ hp_L M) (fun r hr hn => ?_) (fun a i ha hk hi hn => ?_)
  · rcases hW.2.2.2.1 r hr with e | e
    · exact absurd e hn
    · exact e
  · rcases hW.2.2.2.2.1 a ha (by omega) i hi with e | e
    · exact absurd e hn
    · exact e
noncomputable def hp_b (M : hp_S) (o : Nat) : Bool := @decide (hp_R M o) (Classical.propDecidable _)
theorem hp_b_iff {M : hp_S} {o : Nat} : hp_b M o = true ↔ hp_R M o := by
  unfold hp_b; exact @decide_eq_true_iff _ (Classical.propDecidable _)
theorem hp_b_0 {M : hp_S} (hW : hp_W M) : hp_b M 0 = false := by
  cases h : hp_b M 0
  · rfl
  · have := (hW.2.1 0 (hp_R.in hW (hp_b_iff.mp h))).1; omega
theorem hp_b_in {M : hp_S} (hW : hp_W M) {o : Nat} (h : hp_b M o = true) : o ∈ hp_L M := hp_R.in hW (hp_b_iff.mp h)
/-- what is left -/
noncomputable abbrev hp_L2 (M : hp_S) : List Nat := (hp_L M).filter (hp_b M)
noncomputable def hp_col (M : hp_S) : hp_S :=
  (hp_L2 M, fun o => if hp_b M o = true then hp_k M o else 0, hp_z M, fun o i => if hp_k M o = 3 ∧ hp_b M (hp_l M o i) = false then 0 else hp_l M o i, hp_n M, hp_r M, hp_c M + 1)
theorem hp_in2 {M : hp_S} (hW : hp_W M) {o : Nat} : o ∈ hp_L2 M ↔ hp_b M o = true := by
  unfold hp_L2
  rw [List.mem_filter]
  exact ⟨fun h => h.2, fun h => ⟨hp_b_in hW h, h⟩⟩
theorem hp_col_W {M : hp_S} (hW : hp_W M) : hp_W (hp_col M) := by
  have hin : ∀ o, o ∈ hp_L (hp_col M) ↔ hp_b M o = true := fun o => hp_in2 hW
  refine ⟨List.Pairwise.filter _ hW.1, fun o ho => ?_, fun o ho => ?_, fun r hr => ?_, fun o ho hk i hi => ?_, Nat.le_trans (hp_t_filter _ _ _) hW.2.2.2.2.2⟩
  · have hb := (hin o).mp ho
    obtain ⟨h1, h2, h3, h4, h5, h6⟩ := hW.2.1 o (hp_b_in hW hb)
    have e : hp_k (hp_col M) o = hp_k M o := if_pos hb
    rw [e]
    exact ⟨h1, h2, h3, h4, h5, h6⟩
  · have hb : ¬ hp_b M o = true := fun h => ho ((hin o).mpr h)
    exact if_neg hb
  · by_cases h0 : hp_r M r = 0
    · exact Or.inl h0
    · exact Or.inr ((hin _).mpr (hp_b_iff.mpr (hp_R.reg hr h0)))
  · have hb := (hin o).mp ho
    have e : hp_k (hp_col M) o = hp_k M o := if_pos hb
    rw [e] at hk
    have hi' : i < hp_z M o := hi
    have e2 : hp_l (hp_col M) o i = if hp_k M o = 3 ∧ hp_b M (hp_l M o i) = false then 0 else hp_l M o i := rfl
    rw [e2]
    by_cases h3 : hp_k M o = 3 ∧ hp_b M (hp_l M o i) = false
    · rw [if_pos h3]; exact Or.inl rfl
    · rw [if_neg h3]
      by_cases h0 : hp_l M o i = 0
      · exact Or.inl h0
      · refine Or.inr ((hin _).mpr ?_)
        by_cases hk3 : hp_k M o = 3
        · cases hc : hp_b M (hp_l M o i)
          · exact absurd ⟨hk3, hc⟩ h3
          · rfl
        · obtain ⟨-, -, g3, g4, -, -⟩ := hW.2.1 o (hp_b_in hW hb)
          exact hp_b_iff.mpr (hp_R.step (hp_b_iff.mp hb) (by omega) hi' h0)
/-- a reference, as the program holds it: the place; null -1 -/
def hp_e (M : hp_S) (o : Nat) : Int32 := if o = 0 then -1 else nI (hp_pl M o)
/-- a content of object o, as the program holds it -/
def hp_v (M : hp_S) (o i : Nat) : Int64 := if hp_k M o = 2 then hp_n M o i else (hp_e M (hp_l M o i)).toInt64
def hp_h (M : hp_S) (o : Nat) : Int64 := lN (4 * hp_z M o + hp_k M o)
/-- the program's cells and registers hold the heap M -/
def hp_C (M : hp_S) (ce : Nat → Int64) (rg : Nat → Int32) (tk ob co : Int32) : Prop :=
  tk = nI (hp_tk M) ∧ ob = nI (hp_L M).length ∧ co = hp_c M ∧ (∀ r, r < 16 → rg r = hp_e M (hp_r M r)) ∧ ∀ o ∈ hp_L M, ce (hp_pl M o) = hp_h M o ∧ ∀ i, i < hp_z M o → ce (hp_pl M o + (1 + i)) = hp_v M o i
/-- the reference's rows hold the heap M -/
def hp_Q (M : hp_S) (kd sz od lk : Nat → Int32) (nu : Nat → Int64) (rg : Nat → Int32) (ob co : Int32) : Prop :=
  ob = nI (hp_L M).length ∧ co = hp_c M ∧ (∀ r, r < 16 → rg r = nI (hp_r M r)) ∧ (∀ o, o ≤ 300 → kd o = nI (hp_k M o)) ∧ (∀ j o, (hp_L M)[j]? = some o → od j = nI o) ∧
  ∀ o ∈ hp_L M, sz o = nI (hp_z M o) ∧ (hp_k M o ≠ 2 → ∀ i, i < hp_z M o → lk (40 * o + i) = nI (hp_l M o i)) ∧ (hp_k M o = 2 → ∀ i, i < hp_z M o → nu (40 * o + i) = hp_n M o i)
/-- a new object o of kind k with n contents, behind the last -/
def hp_mk (M : hp_S) (o k n : Nat) : hp_S := (hp_L M ++ [o], va_up (hp_k M) o k, va_up (hp_z M) o n, va_up (hp_l M) o (fun _ => 0), va_up (hp_n M) o (fun _ => 0), hp_r M, hp_c M)
def hp_sr (M : hp_S) (r o : Nat) : hp_S := (hp_L M, hp_k M, hp_z M, hp_l M, hp_n M, va_up (hp_r M) r o, hp_c M)
def hp_sl (M : hp_S) (o i x : Nat) : hp_S := (hp_L M, hp_k M, hp_z M, va_up (hp_l M) o (va_up (hp_l M o) i x), hp_n M, hp_r M, hp_c M)
def hp_sn (M : hp_S) (o i : Nat) (x : Int64) : hp_S := (hp_L M, hp_k M, hp_z M, hp_l M, va_up (hp_n M) o (va_up (hp_n M o) i x), hp_r M, hp_c M)
end
section
/-! the program's own steps, as functions and lists -/
theorem hp_e0 (M : hp_S) : hp_e M 0 = -1 := if_pos rfl
theorem hp_en {M : hp_S} {o : Nat} (h : o ≠ 0) : hp_e M o = nI (hp_pl M o) := if_neg h
theorem hp_neg1 {n : Nat} (h : n < 2 ^ 31) : ¬ nI n = -1 := fun e => nI_pos h (by rw [e]; decide)
theorem hp_pl_lt {M : hp_S} (hW : hp_W M) {o : Nat} (h : o ∈ hp_L M) : hp_pl M o + (1 + hp_z M o) ≤ 300 := Nat.le_trans (hp_p_in h) hW.2.2.2.2.2
theorem hp_in_pos {M : hp_S} (hW : hp_W M) {o : Nat} (h : o ∈ hp_L M) : o ≠ 0 := by have := (hW.2.1 o h).1; omega
theorem hp_h_i (M : hp_S) (o : Nat) : (hp_h M o).toInt32 = nI (4 * hp_z M o + hp_k M o) := lN_i _
theorem hp_h_kind {M : hp_S} (hW : hp_W M) {o : Nat} (h : o ∈ hp_L M) : (hp_h M o).toInt32 &&& 3 = nI (hp_k M o) := by
  obtain ⟨-, -, -, h4, h5, -⟩ := hW.2.1 o h
  rw [hp_h_i, pk_andN (by omega) 2 (by decide +kernel)]
  congr 1
  omega
theorem hp_h_len {M : hp_S} (hW : hp_W M) {o : Nat} (h : o ∈ hp_L M) : (hp_h M o).toInt32 >>> ((2 : Int32) &&& 31) = nI (hp_z M o) := by
  obtain ⟨-, -, -, h4, h5, -⟩ := hW.2.1 o h
  rw [hp_h_i, pk_shrN (by omega) _ 2 (by decide +kernel)]
  congr 1
  omega
/-- what is noted as reached: R, by number; the row of places; the marks -/
def hp_I (M : hp_S) (R : List Nat) (re : Nat → Int32) (rc : Int32) (np : Nat → Int32) : Prop :=
  rc = nI R.length ∧ R.Nodup ∧ (∀ o ∈ R, o ∈ hp_L M) ∧ (∀ j o, R[j]? = some o → re j = nI (hp_pl M o)) ∧ ∀ o ∈ hp_L M, np (hp_pl M o) = if o ∈ R then nI (hp_pl M o) else -1
theorem hp_I_len {M : hp_S} (hW : hp_W M) {R : List Nat} {re : Nat → Int32} {rc : Int32} {np : Nat → Int32} (h : hp_I M R re rc np) : R.length ≤ 300 :=
  Nat.le_trans (hp_sub_len h.2.1 h.2.2.1) (Nat.le_trans (hp_len _ _) hW.2.2.2.2.2)
theorem hp_I_lt {M : hp_S} (hW : hp_W M) {R : List Nat} {re : Nat → Int32} {rc : Int32} {np : Nat → Int32} (h : hp_I M R re rc np) {o : Nat} (ho : o ∈ hp_L M) (hn : o ∉ R) : R.length < 300 :=
  Nat.lt_of_lt_of_le (hp_sub_lt h.2.1 h.2.2.1 ho hn) (Nat.le_trans (hp_len _ _) hW.2.2.2.2.2)
theorem hp_I_0 {M : hp_S} {re np : Nat → Int32} (h : ∀ j, j < 300 → np j = -1) (hW : hp_W M) : hp_I M [] re (nI 0) np :=
  ⟨rfl, List.nodup_nil, fun _ h => absurd h List.not_mem_nil, fun j o h => by simp at h, fun o ho => by
    rw [h _ (by have := hp_pl_lt hW ho; omega)]; simp⟩
theorem hp_I_add {M : hp_S} {R : List Nat} {re : Nat → Int32} {rc : Int32} {np : Nat → Int32} (h : hp_I M R re rc np) {o : Nat} (ho : o ∈ hp_L M) (hn : o ∉ R) :
    hp_I M (R ++ [o]) (upd re R.length (nI (hp_pl M o))) (nI (R.length + 1)) (upd np (hp_pl M o) (nI (hp_pl M o))) := by
  obtain ⟨h1, h2, h3, h4, h5⟩ := h
  refine ⟨by simp, ?_, fun x hx => ?_, fun j x hx => ?_, fun x hx => ?_⟩
  · rw [List.nodup_append]
    exact ⟨h2, by simp, fun a ha b hb => by
      rw [List.mem_singleton] at hb
      subst hb
      exact fun e => hn (e ▸ ha)⟩
  · rcases List.mem_append.mp hx with e | e
    · exact h3 x e
    · rw [List.mem_singleton] at e; exact e ▸ ho
  · by_cases hj : j < R.length
    · rw [List.getElem?_append_left hj] at hx
      rw [pk_un (by omega)]
      exact h4 j x hx
    · have hj2 : j = R.length := by
        have := (List.getElem?_eq_some_iff.mp hx).1
        simp at this
        omega
      subst hj2
      simp at hx
      subst hx
      exact pk_us
  · by_cases e : x = o
    · subst e
      rw [pk_us, if_pos (by simp)]
    · rw [pk_un (fun e2 => e (hp_p_inj hx ho e2)), h5 x hx]
      have : (x ∈ R ++ [o]) ↔ x ∈ R := by simp [e]
      by_cases hR : x ∈ R
      · rw [if_pos hR, if_pos (this.mpr hR)]
      · rw [if_neg hR, if_neg (fun h => hR (this.mp h))]
def hp_nt (R : List Nat) (o : Nat) : List Nat := if o = 0 ∨ o ∈ R then R else R ++ [o]
def hp_nf (f : Nat → Nat) : Nat → List Nat → List Nat
  | 0, R => R
  | n + 1, R => hp_nt (hp_nf f n R) (f n)
theorem hp_nt_pre (R : List Nat) (o : Nat) : ∃ t, hp_nt R o = R ++ t := by
  unfold hp_nt
  split
  · exact ⟨[], by simp⟩
  · exact ⟨[o], rfl⟩
theorem hp_nt_in (R : List Nat) (o x : Nat) : x ∈ hp_nt R o ↔ x ∈ R ∨ (x = o ∧ o ≠ 0) := by
  unfold hp_nt
  split
  · rename_i h
    constructor
    · exact Or.inl
    · rintro (h1 | ⟨rfl, h2⟩)
      · exact h1
      · rcases h with h | h
        · exact absurd h h2
        · exact h
  · rename_i h
    have h0 : o ≠ 0 := fun e => h (Or.inl e)
    simp [h0]
theorem hp_nf_pre (f : Nat → Nat) (R : List Nat) : ∀ n, ∃ t, hp_nf f n R = R ++ t
  | 0 => ⟨[], by simp [hp_nf]⟩
  | n + 1 => by
    obtain ⟨t, ht⟩ := hp_nf_pre f R n
    obtain ⟨u, hu⟩ := hp_nt_pre (hp_nf f n R) (f n)
    exact ⟨t ++ u, by rw [hp_nf, hu, ht, List.append_assoc]⟩
theorem hp_nf_in (f : Nat → Nat) (R : List Nat) (x : Nat) : ∀ n, x ∈ hp_nf f n R ↔ x ∈ R ∨ ∃ i, i < n ∧ x = f i ∧ f i ≠ 0
  | 0 => by simp [hp_nf]
  | n + 1 => by
    rw [hp_nf, hp_nt_in, hp_nf_in f R x n]
    constructor
    · rintro ((h | ⟨i, h1, h2⟩) | h)
      · exact Or.inl h
      · exact Or.inr ⟨i, by omega, h2⟩
      · exact Or.inr ⟨n, by omega, h⟩
    · rintro (h | ⟨i, h1, h2⟩)
      · exact Or.inl (Or.inl h)
      · by_cases e : i = n
        · subst e; exact Or.inr h2
        · exact Or.inl (Or.inr ⟨i, by omega, h2⟩)
/-- the first k of R have been looked into -/
def hp_J (M : hp_S) (R : List Nat) (k : Nat) : Prop :=
  (∀ o ∈ R, hp_R M o) ∧ (∀ r, r < 16 → hp_r M r ≠ 0 → hp_r M r ∈ R) ∧ ∀ j o, j < k → R[j]? = some o → hp_k M o = 1 → ∀ i, i < hp_z M o → hp_l M o i ≠ 0 → hp_l M o i ∈ R
theorem hp_J_0 (M : hp_S) : hp_J M (hp_nf (hp_r M) 16 []) 0 := by
  refine ⟨fun o ho => ?_, fun r hr hn => ?_, fun j o hj => absurd hj (Nat.not_lt_zero _)⟩
  · rcases (hp_nf_in _ _ _ _).mp ho with h | ⟨i, h1, h2, h3⟩
    · exact absurd h List.not_mem_nil
    · rw [h2]; exact hp_R.reg h1 h3
  · exact (hp_nf_in _ _ _ _).mpr (Or.inr ⟨r, hr, rfl, hn⟩)
theorem hp_J_links {M : hp_S} {R : List Nat} {k o : Nat} (h : hp_J M R k) (hk : R[k]? = some o) (h1 : hp_k M o = 1) : hp_J M (hp_nf (hp_l M o) (hp_z M o) R) (k + 1) := by
  obtain ⟨a1, a2, a3⟩ := h
  have hR : hp_R M o := a1 o (List.mem_of_getElem? hk)
  have hlt : k < R.length := (List.getElem?_eq_some_iff.mp hk).1
  obtain ⟨t, ht⟩ := hp_nf_pre (hp_l M o) R (hp_z M o)
  have hold : ∀ x, x ∈ R → x ∈ hp_nf (hp_l M o) (hp_z M o) R := fun x hx => (hp_nf_in _ _ _ _).mpr (Or.inl hx)
  refine ⟨fun x hx => ?_, fun r hr hn => hold _ (a2 r hr hn), fun j x hj hx hx1 i hi hn => ?_⟩
  · rcases (hp_nf_in _ _ _ _).mp hx with g | ⟨i, g1, g2, g3⟩
    · exact a1 x g
    · rw [g2]; exact hp_R.step hR h1 g1 g3
  · rw [ht, List.getElem?_append_left (by omega)] at hx
    by_cases e : j = k
    · subst e
      rw [hk] at hx
      cases hx
      exact (hp_nf_in _ _ _ _).mpr (Or.inr ⟨i, hi, rfl, hn⟩)
    · exact hold _ (a3 j x (by omega) hx hx1 i hi hn)
theorem hp_J_other {M : hp_S} {R : List Nat} {k o : Nat} (h : hp_J M R k) (hk : R[k]? = some o) (h1 : hp_k M o ≠ 1) : hp_J M R (k + 1) := by
  obtain ⟨a1, a2, a3⟩ := h
  refine ⟨a1, a2, fun j x hj hx hx1 => ?_⟩
  by_cases e : j = k
  · subst e
    rw [hk] at hx
    cases hx
    exact absurd hx1 h1
  · exact a3 j x (by omega) hx hx1
theorem hp_J_end {M : hp_S} {R : List Nat} {k : Nat} (h : hp_J M R k) (hk : R.length ≤ k) (o : Nat) : o ∈ R ↔ hp_b M o = true := by
  rw [hp_b_iff]
  obtain ⟨a1, a2, a3⟩ := h
  refine ⟨a1 o, fun hR => hR (fun x => x ∈ R) a2 (fun a i ha hk1 hi hn => ?_)⟩
  obtain ⟨j, hj⟩ := List.getElem?_of_mem ha
  exact a3 j a (Nat.lt_of_lt_of_le (List.getElem?_eq_some_iff.mp hj).1 hk) hj hk1 i hi hn
/-- the new places, known for the objects of pre -/
def hp_N (M : hp_S) (pre suf : List Nat) (np : Nat → Int32) : Prop :=
  (∀ o ∈ pre, np (hp_pl M o) = if hp_b M o = true then nI (hp_p (hp_z M) (hp_L2 M) o) else -1) ∧ ∀ o ∈ suf, np (hp_pl M o) = if hp_b M o = true then nI (hp_pl M o) else -1
theorem hp_N_0 {M : hp_S} {R : List Nat} {re : Nat → Int32} {rc : Int32} {np : Nat → Int32} (h : hp_I M R re rc np) (hb : ∀ o, o ∈ R ↔ hp_b M o = true) : hp_N M [] (hp_L M) np :=
  ⟨fun _ h => absurd h List.not_mem_nil, fun o ho => by
    rw [h.2.2.2.2 o ho]
    by_cases e : o ∈ R
    · rw [if_pos e, if_pos ((hb o).mp e)]
    · rw [if_neg e, if_neg (fun x => e ((hb o).mpr x))]⟩
theorem hp_new_at {M : hp_S} (hW : hp_W M) {pre suf : List Nat} {o : Nat} (hL : hp_L M = pre ++ o :: suf) (hb : hp_b M o = true) : hp_p (hp_z M) (hp_L2 M) o = hp_t (hp_z M) (pre.filter (hp_b M)) := by
  have hn := hW.1
  rw [hL] at hn
  have h1 := (hp_not_in hn).1
  unfold hp_L2
  rw [hL, List.filter_append, List.filter_cons_of_pos hb]
  exact hp_p_at (fun h => h1 (List.mem_filter.mp h).1)
theorem hp_old_at {M : hp_S} (hW : hp_W M) {pre suf : List Nat} {o : Nat} (hL : hp_L M = pre ++ o :: suf) : hp_pl M o = hp_t (hp_z M) pre := by
  have hn := hW.1
  rw [hL] at hn
  unfold hp_pl
  rw [hL]
  exact hp_p_at (hp_not_in hn).1
theorem hp_t_snoc (z : Nat → Nat) (pre : List Nat) (o : Nat) : hp_t z (pre ++ [o]) = hp_t z pre + (1 + z o) := by
  rw [hp_t_app]; simp [hp_t]
theorem hp_filter_t (M : hp_S) (pre : List Nat) {o : Nat} (h : hp_b M o = true) : (pre ++ [o]).filter (hp_b M) = pre.filter (hp_b M) ++ [o] := by
  rw [List.filter_append, List.filter_cons_of_pos h]; rfl
theorem hp_filter_f (M : hp_S) (pre : List Nat) {o : Nat} (h : ¬ hp_b M o = true) : (pre ++ [o]).filter (hp_b M) = pre.filter (hp_b M) := by
  rw [List.filter_append, List.filter_cons_of_neg h]; simp
theorem hp_N_t {M : hp_S} (hW : hp_W M) {pre suf : List Nat} {o : Nat} {np : Nat → Int32} (hL : hp_L M = pre ++ o :: suf) (h : hp_N M pre (o :: suf) np) (hb : hp_b M o = true) :
    hp_N M (pre ++ [o]) suf (upd np (hp_pl M o) (nI (hp_t (hp_z M) (pre.filter (hp_b M))))) := by
  have hn := hW.1
  rw [hL] at hn
  obtain ⟨n1, n2⟩ := hp_not_in hn
  have hin : ∀ x, x ∈ pre ∨ x ∈ o :: suf → x ∈ hp_L M := fun x hx => by rw [hL]; exact List.mem_append.mpr hx
  have ho : o ∈ hp_L M := hin o (Or.inr List.mem_cons_self)
  refine ⟨fun x hx => ?_, fun x hx => ?_⟩
  · rcases List.mem_append.mp hx with e | e
    · rw [pk_un (fun e2 => n1 (hp_p_inj (hin x (Or.inl e)) ho e2 ▸ e))]
      exact h.1 x e
    · rw [List.mem_singleton] at e
      subst e
      rw [pk_us, if_pos hb, hp_new_at hW hL hb]
  · rw [pk_un (fun e2 => n2 (hp_p_inj (hin x (Or.inr (List.mem_cons_of_mem _ hx))) ho e2 ▸ hx))]
    exact h.2 x (List.mem_cons_of_mem _ hx)
theorem hp_N_f {M : hp_S} {pre suf : List Nat} {o : Nat} {np : Nat → Int32} (h : hp_N M pre (o :: suf) np) (hb : ¬ hp_b M o = true) : hp_N M (pre ++ [o]) suf np := by
  refine ⟨fun x hx => ?_, fun x hx => h.2 x (List.mem_cons_of_mem _ hx)⟩
  rcases List.mem_append.mp hx with e | e
  · exact h.1 x e
  · rw [List.mem_singleton] at e
    subst e
    rw [if_neg hb, h.2 x List.mem_cons_self, if_neg hb]
/-- the new place of what a reference refers to -/
def hp_nw (np : Nat → Int32) (x : Int32) : Int32 := if x = -1 then -1 else np x.toNatClampNeg
theorem hp_nw_e {M : hp_S} (hW : hp_W M) {np : Nat → Int32} (h : hp_N M (hp_L M) [] np) {o : Nat} (ho : o = 0 ∨ o ∈ hp_L M) : hp_nw np (hp_e M o) = hp_e (hp_col M) (if hp_b M o = true then o else 0) := by
  rcases ho with rfl | ho
  · rw [hp_e0, hp_b_0 hW]; simp [hp_nw, hp_e]
  · have h1 := hp_pl_lt hW ho
    rw [hp_en (hp_in_pos hW ho)]
    unfold hp_nw
    rw [if_neg (hp_neg1 (by omega)), nI_clamp (by omega), h.1 o ho]
    by_cases hb : hp_b M o = true
    · rw [if_pos hb, if_pos hb, hp_en (hp_in_pos hW ho)]; rfl
    · rw [if_neg hb, if_neg hb, hp_e0]
theorem hp_nw_reg {M : hp_S} (hW : hp_W M) {np : Nat → Int32} (h : hp_N M (hp_L M) [] np) {r : Nat} (hr : r < 16) : hp_nw np (hp_e M (hp_r M r)) = hp_e (hp_col M) (hp_r (hp_col M) r) := by
  rw [hp_nw_e hW h (hW.2.2.2.1 r hr)]
  by_cases h0 : hp_r M r = 0
  · show hp_e (hp_col M) _ = hp_e (hp_col M) (hp_r M r)
    rw [h0, hp_b_0 hW]; simp
  · rw [if_pos (hp_b_iff.mpr (hp_R.reg hr h0))]
    rfl
/-- the contents of the objects of P are redirected, of the others not yet -/
def hp_X (M : hp_S) (P : List Nat) (ce : Nat → Int64) : Prop :=
  ∀ o ∈ hp_L M, ce (hp_pl M o) = hp_h M o ∧ ∀ i, i < hp_z M o → ce (hp_pl M o + (1 + i)) = if o ∈ P then hp_v (hp_col M) o i else hp_v M o i
def hp_rd (np : Nat → Int32) (ce : Nat → Int64) (a c : Nat) : Nat → Int64 := fun j => if a ≤ j ∧ j < c then (hp_nw np (ce j).toInt32).toInt64 else ce j
theorem hp_rd_0 (np : Nat → Int32) (ce : Nat → Int64) (a : Nat) : hp_rd np ce a a = ce := by
  funext j
  unfold hp_rd
  rw [if_neg (by omega)]
theorem hp_rd_s (np : Nat → Int32) (ce : Nat → Int64) {a c : Nat} (h : a ≤ c) : vp_updL (hp_rd np ce a c) c (hp_nw np (hp_rd np ce a c c).toInt32).toInt64 = hp_rd np ce a (c + 1) := by
  funext j
  by_cases e : j = c
  · subst e
    rw [pk_uLs]
    unfold hp_rd
    rw [if_neg (by omega), if_pos (by omega)]
  · rw [pk_uLn e]
    unfold hp_rd
    by_cases h2 : a ≤ j ∧ j < c
    · rw [if_pos h2, if_pos (by omega)]
    · rw [if_neg h2, if_neg (by omega)]
theorem hp_32 (x : Int32) : x.toInt64.toInt32 = x := by simp
theorem hp_v_col {M : hp_S} (hW : hp_W M) {np : Nat → Int32} (h : hp_N M (hp_L M) [] np) {o i : Nat} (ho : hp_b M o = true) (hk : hp_k M o ≠ 2) (hi : i < hp_z M o) : (hp_nw np (hp_v M o i).toInt32).toInt64 = hp_v (hp_col M) o i := by
  have hL := hp_b_in hW ho
  have e1 : hp_v M o i = (hp_e M (hp_l M o i)).toInt64 := if_neg hk
  have e2 : hp_k (hp_col M) o = hp_k M o := if_pos ho
  have e3 : hp_v (hp_col M) o i = (hp_e (hp_col M) (hp_l (hp_col M) o i)).toInt64 := if_neg (by rw [e2]; exact hk)
  rw [e1, e3, hp_32, hp_nw_e hW h (hW.2.2.2.2.1 o hL hk i hi)]
  congr 2
  show _ = if hp_k M o = 3 ∧ hp_b M (hp_l M o i) = false then 0 else hp_l M o i
  by_cases h3 : hp_k M o = 3
  · cases hb : hp_b M (hp_l M o i)
    · simp [h3]
    · simp [hb]
  · rw [show (if hp_k M o = 3 ∧ hp_b M (hp_l M o i) = false then 0 else hp_l M o i) = hp_l M o i from if_neg (fun z => h3 z.1)]
    by_cases h0 : hp_l M o i = 0
    · rw [h0]; simp
    · obtain ⟨-, -, g3, g4, -, -⟩ := hW.2.1 o hL
      rw [if_pos (hp_b_iff.mpr (hp_R.step (hp_b_iff.mp ho) (by omega) hi h0))]
theorem hp_X_num {M : hp_S} {P : List Nat} {ce : Nat → Int64} {o : Nat} (h : hp_X M P ce) (hb : hp_b M o = true) (hk : hp_k M o = 2) : hp_X M (P ++ [o]) ce := by
  intro x hx
  obtain ⟨h1, h2⟩ := h x hx
  refine ⟨h1, fun i hi => ?_⟩
  rw [h2 i hi]
  by_cases e : x = o
  · subst e
    have e2 : hp_k (hp_col M) x = hp_k M x := if_pos hb
    have e3 : hp_v (hp_col M) x i = hp_n M x i := if_pos (by rw [e2]; exact hk)
    have e4 : hp_v M x i = hp_n M x i := if_pos hk
    rw [e3, e4]
    split <;> split <;> rfl
  · have : (x ∈ P ++ [o]) ↔ x ∈ P := by simp [e]
    by_cases hP : x ∈ P
    · rw [if_pos hP, if_pos (this.mpr hP)]
    · rw [if_neg hP, if_neg (fun h => hP (this.mp h))]
theorem hp_X_ref {M : hp_S} (hW : hp_W M) {P : List Nat} {ce : Nat → Int64} {np : Nat → Int32} {o : Nat} (h : hp_X M P ce) (hN : hp_N M (hp_L M) [] np) (hb : hp_b M o = true) (hk : hp_k M o ≠ 2) (hP : o ∉ P) :
    hp_X M (P ++ [o]) (hp_rd np ce (hp_pl M o + 1) (hp_pl M o + 1 + hp_z M o)) := by
  have ho := hp_b_in hW hb
  intro x hx
  obtain ⟨h1, h2⟩ := h x hx
  have hout : ∀ i, i < 1 + hp_z M x → ¬ (x = o ∧ 1 ≤ i) → hp_rd np ce (hp_pl M o + 1) (hp_pl M o + 1 + hp_z M o) (hp_pl M x + i) = ce (hp_pl M x + i) := fun i hi hne => by
    unfold hp_rd
    refine if_neg (fun hr => ?_)
    obtain ⟨g1, g2⟩ := hp_p_cell (z := hp_z M) (i := i) (j := hp_pl M x + i - hp_pl M o) hx ho hi (by omega) (by show hp_pl M x + i = hp_pl M o + _; omega)
    subst g1
    exact hne ⟨rfl, by omega⟩
  refine ⟨by rw [← h1]; exact hout 0 (by omega) (by omega), fun i hi => ?_⟩
  by_cases e : x = o
  · subst e
    rw [if_pos (by simp)]
    unfold hp_rd
    rw [if_pos (by omega), h2 i hi, if_neg hP]
    exact hp_v_col hW hN hb hk hi
  · rw [hout (1 + i) (by omega) (fun z => e z.1), h2 i hi]
    have : (x ∈ P ++ [o]) ↔ x ∈ P := by simp [e]
    by_cases hP2 : x ∈ P
    · rw [if_pos hP2, if_pos (this.mpr hP2)]
    · rw [if_neg hP2, if_neg (fun h => hP2 (this.mp h))]
/-- the objects of pre that stay have moved, those of suf stand where they stood -/
def hp_V (M : hp_S) (pre suf : List Nat) (ce : Nat → Int64) : Prop :=
  (∀ o ∈ pre, hp_b M o = true → ce (hp_pl (hp_col M) o) = hp_h M o ∧ ∀ i, i < hp_z M o → ce (hp_pl (hp_col M) o + (1 + i)) = hp_v (hp_col M) o i) ∧
  ∀ o ∈ suf, ce (hp_pl M o) = hp_h M o ∧ (hp_b M o = true → ∀ i, i < hp_z M o → ce (hp_pl M o + (1 + i)) = hp_v (hp_col M) o i)
theorem hp_V_0 {M : hp_S} {R : List Nat} {ce : Nat → Int64} (h : hp_X M R ce) (hb : ∀ o, o ∈ R ↔ hp_b M o = true) : hp_V M [] (hp_L M) ce :=
  ⟨fun _ h => absurd h List.not_mem_nil, fun o ho => ⟨(h o ho).1, fun g i hi => by rw [(h o ho).2 i hi, if_pos ((hb o).mpr g)]⟩⟩
theorem hp_V_f {M : hp_S} {pre suf : List Nat} {o : Nat} {ce : Nat → Int64} (h : hp_V M pre (o :: suf) ce) (hb : ¬ hp_b M o = true) : hp_V M (pre ++ [o]) suf ce := by
  refine ⟨fun x hx hx2 => ?_, fun x hx => h.2 x (List.mem_cons_of_mem _ hx)⟩
  rcases List.mem_append.mp hx with e | e
  · exact h.1 x e hx2
  · rw [List.mem_singleton] at e
    exact absurd (e ▸ hx2) hb
theorem hp_V_t {M : hp_S} (hW : hp_W M) {pre suf : List Nat} {o : Nat} {ce : Nat → Int64} (hL : hp_L M = pre ++ o :: suf) (h : hp_V M pre (o :: suf) ce) (hb : hp_b M o = true) :
    hp_V M (pre ++ [o]) suf (va_cpy ce ce (hp_pl M o) (hp_pl (hp_col M) o) (1 + hp_z M o)) := by
  have hn := hW.1
  rw [hL] at hn
  obtain ⟨n1, n2⟩ := hp_not_in hn
  have ho : o ∈ hp_L M := by rw [hL]; simp
  have hpo := hp_old_at hW hL
  have hno : hp_pl (hp_col M) o = hp_t (hp_z M) (pre.filter (hp_b M)) := hp_new_at hW hL hb
  have hle := hp_t_filter (hp_z M) (hp_b M) pre
  refine ⟨fun x hx hx2 => ?_, fun x hx => ?_⟩
  · rcases List.mem_append.mp hx with e | e
    · have hxf : x ∈ pre.filter (hp_b M) := List.mem_filter.mpr ⟨e, hx2⟩
      have hxp : hp_pl (hp_col M) x = hp_p (hp_z M) (pre.filter (hp_b M)) x := by
        show hp_p (hp_z M) ((hp_L M).filter (hp_b M)) x = _
        rw [hL, List.filter_append]
        exact hp_p_l _ hxf
      have hxi := hp_p_in (z := hp_z M) hxf
      obtain ⟨g1, g2⟩ := h.1 x e hx2
      refine ⟨by rw [pk_cpy_out (by omega)]; exact g1, fun i hi => by rw [pk_cpy_out (by omega)]; exact g2 i hi⟩
    · rw [List.mem_singleton] at e
      subst e
      obtain ⟨g1, g2⟩ := h.2 x List.mem_cons_self
      refine ⟨?_, fun i hi => ?_⟩
      · rw [pk_cpy_in (by omega) (by omega), ← g1]
        congr 1
        omega
      · rw [pk_cpy_in (by omega) (by omega), ← g2 hb i hi]
        congr 1
        omega
  · have hx2 : x ∈ hp_L M := by rw [hL]; simp [hx]
    have hxp : hp_pl M x = hp_t (hp_z M) pre + ((1 + hp_z M o) + hp_p (hp_z M) suf x) := by
      have hx3 : x ∉ pre := fun e => by
        rw [List.nodup_append] at hn
        exact hn.2.2 x e x (List.mem_cons_of_mem _ hx) rfl
      have hx4 : o ≠ x := fun e => n2 (e ▸ hx)
      unfold hp_pl
      rw [hL, hp_p_r _ hx3]
      simp only [hp_p, if_neg hx4]
    obtain ⟨g1, g2⟩ := h.2 x (List.mem_cons_of_mem _ hx)
    refine ⟨by rw [pk_cpy_out (by omega)]; exact g1, fun g i hi => by rw [pk_cpy_out (by omega)]; exact g2 g i hi⟩
/-- behind it all -/
theorem hp_C_col {M : hp_S} (hW : hp_W M) {R : List Nat} {ce : Nat → Int64} {rg : Nat → Int32} (hR : R.Nodup) (hb : ∀ o, o ∈ R ↔ hp_b M o = true) (hV : hp_V M (hp_L M) [] ce) (hr : ∀ r, r < 16 → rg r = hp_e (hp_col M) (hp_r (hp_col M) r)) :
    hp_C (hp_col M) ce rg (nI (hp_t (hp_z M) (hp_L2 M))) (nI R.length) (hp_c M + 1) := by
  have hlen : R.length = (hp_L2 M).length := by
    have h2 : (hp_L2 M).Nodup := List.Pairwise.filter _ hW.1
    have a := hp_sub_len hR (fun o ho => (hp_in2 hW).mpr ((hb o).mp ho))
    have b := hp_sub_len h2 (fun o ho => (hb o).mpr ((hp_in2 hW).mp ho))
    omega
  refine ⟨rfl, by rw [hlen]; rfl, rfl, hr, fun o ho => ?_⟩
  have hbo : hp_b M o = true := (hp_in2 hW).mp ho
  obtain ⟨g1, g2⟩ := hV.1 o (hp_b_in hW hbo) hbo
  have e2 : hp_k (hp_col M) o = hp_k M o := if_pos hbo
  refine ⟨g1.trans ?_, g2⟩
  unfold hp_h
  rw [e2]
  rfl
end
section
/-! the calls on a heap M, on both sides -/
theorem hp_sr_W {M : hp_S} (hW : hp_W M) {r x : Nat} (hx : x = 0 ∨ x ∈ hp_L M) : hp_W (hp_sr M r x) := by
  obtain ⟨h1, h2, h3, h4, h5, h6⟩ := hW
  refine ⟨h1, h2, h3, fun j hj => ?_, h5, h6⟩
  show va_up (hp_r M) r x j = 0 ∨ va_up (hp_r M) r x j ∈ hp_L M
  by_cases e : j = r
  · subst e; rw [va_up_self]; exact hx
  · rw [va_up_ne _ _ e]; exact h4 j hj
theorem hp_sr_C {M : hp_S} {ce : Nat → Int64} {rg : Nat → Int32} {tk ob co : Int32} (h : hp_C M ce rg tk ob co) (r x : Nat) : hp_C (hp_sr M r x) ce (upd rg r (hp_e M x)) tk ob co := by
  obtain ⟨h1, h2, h3, h4, h5⟩ := h
  refine ⟨h1, h2, h3, fun j hj => ?_, h5⟩
  show _ = hp_e M (va_up (hp_r M) r x j)
  by_cases e : j = r
  · subst e; rw [va_up_self, pk_us]
  · rw [va_up_ne _ _ e, pk_un e]; exact h4 j hj
theorem hp_sr_Q {M : hp_S} {kd sz od lk : Nat → Int32} {nu : Nat → Int64} {rg : Nat → Int32} {ob co : Int32} (h : hp_Q M kd sz od lk nu rg ob co) (r x : Nat) : hp_Q (hp_sr M r x) kd sz od lk nu (upd rg r (nI x)) ob co := by
  obtain ⟨h1, h2, h3, h4⟩ := h
  refine ⟨h1, h2, fun j hj => ?_, h4⟩
  show _ = nI (va_up (hp_r M) r x j)
  by_cases e : j = r
  · subst e; rw [va_up_self, pk_us]
  · rw [va_up_ne _ _ e, pk_un e]; exact h3 j hj
theorem hp_sl_l {M : hp_S} {o i x a j : Nat} : hp_l (hp_sl M o i x) a j = if a = o ∧ j = i then x else hp_l M a j := by
  show va_up (hp_l M) o (va_up (hp_l M o) i x) a j = _
  by_cases e : a = o
  · subst e
    rw [va_up_self]
    by_cases e2 : j = i
    · subst e2; rw [va_up_self, if_pos ⟨rfl, rfl⟩]
    · rw [va_up_ne _ _ e2, if_neg (fun z => e2 z.2)]
  · rw [va_up_ne _ _ e, if_neg (fun z => e z.1)]
theorem hp_sn_n {M : hp_S} {o i a j : Nat} {x : Int64} : hp_n (hp_sn M o i x) a j = if a = o ∧ j = i then x else hp_n M a j := by
  show va_up (hp_n M) o (va_up (hp_n M o) i x) a j = _
  by_cases e : a = o
  · subst e
    rw [va_up_self]
    by_cases e2 : j = i
    · subst e2; rw [va_up_self, if_pos ⟨rfl, rfl⟩]
    · rw [va_up_ne _ _ e2, if_neg (fun z => e2 z.2)]
  · rw [va_up_ne _ _ e, if_neg (fun z => e z.1)]
theorem hp_sl_W {M : hp_S} (hW : hp_W M) {o i x : Nat} (hx : x = 0 ∨ x ∈ hp_L M) : hp_W (hp_sl M o i x) := by
  obtain ⟨h1, h2, h3, h4, h5, h6⟩ := hW
  refine ⟨h1, h2, h3, h4, fun a ha hk j hj => ?_, h6⟩
  rw [hp_sl_l]
  by_cases e : a = o ∧ j = i
  · rw [if_pos e]; exact hx
  · rw [if_neg e]; exact h5 a ha hk j hj
theorem hp_sn_W {M : hp_S} (hW : hp_W M) {o i : Nat} {x : Int64} : hp_W (hp_sn M o i x) := hW
theorem hp_40 {a b i j : Nat} (hi : i < 40) (hj : j < 40) (e : 40 * a + i = 40 * b + j) : a = b ∧ i = j := by omega
theorem hp_sl_C {M : hp_S} {ce : Nat → Int64} {rg : Nat → Int32} {tk ob co : Int32} (h : hp_C M ce rg tk ob co) {o i x : Nat} (ho : o ∈ hp_L M) (hk : hp_k M o ≠ 2) (hi : i < hp_z M o) :
    hp_C (hp_sl M o i x) (vp_updL ce (hp_pl M o + (1 + i)) (hp_e M x).toInt64) rg tk ob co := by
  obtain ⟨h1, h2, h3, h4, h5⟩ := h
  refine ⟨h1, h2, h3, h4, fun a ha => ?_⟩
  have ha' : a ∈ hp_L M := ha
  obtain ⟨g1, g2⟩ := h5 a ha'
  refine ⟨?_, fun j hj => ?_⟩
  · show vp_updL ce (hp_pl M o + (1 + i)) (hp_e M x).toInt64 (hp_pl M a) = _
    rw [pk_uLn (fun e => by have := (hp_p_cell (z := hp_z M) (i := 0) (j := 1 + i) ha' ho (by omega) (by omega) e).2; omega)]
    exact g1
  · have hj' : j < hp_z M a := hj
    show vp_updL ce (hp_pl M o + (1 + i)) (hp_e M x).toInt64 (hp_pl M a + (1 + j)) = if hp_k M a = 2 then hp_n M a j else (hp_e M (hp_l (hp_sl M o i x) a j)).toInt64
    rw [hp_sl_l]
    by_cases e : a = o ∧ j = i
    · obtain ⟨rfl, rfl⟩ := e
      rw [pk_uLs, if_neg hk, if_pos ⟨rfl, rfl⟩]
    · rw [pk_uLn (fun e2 => e (by have := hp_p_cell (z := hp_z M) (i := 1 + j) (j := 1 + i) ha' ho (by omega) (by omega) e2; exact ⟨this.1, by omega⟩)), if_neg e]
      exact g2 j hj'
theorem hp_sn_C {M : hp_S} {ce : Nat → Int64} {rg : Nat → Int32} {tk ob co : Int32} (h : hp_C M ce rg tk ob co) {o i : Nat} {x : Int64} (ho : o ∈ hp_L M) (hk : hp_k M o = 2) (hi : i < hp_z M o) :
    hp_C (hp_sn M o i x) (vp_updL ce (hp_pl M o + (1 + i)) x) rg tk ob co := by
  obtain ⟨h1, h2, h3, h4, h5⟩ := h
  refine ⟨h1, h2, h3, h4, fun a ha => ?_⟩
  have ha' : a ∈ hp_L M := ha
  obtain ⟨g1, g2⟩ := h5 a ha'
  refine ⟨?_, fun j hj => ?_⟩
  · show vp_updL ce (hp_pl M o + (1 + i)) x (hp_pl M a) = _
    rw [pk_uLn (fun e => by have := (hp_p_cell (z := hp_z M) (i := 0) (j := 1 + i) ha' ho (by omega) (by omega) e).2; omega)]
    exact g1
  · have hj' : j < hp_z M a := hj
    show vp_updL ce (hp_pl M o + (1 + i)) x (hp_pl M a + (1 + j)) = if hp_k M a = 2 then hp_n (hp_sn M o i x) a j else (hp_e M (hp_l M a j)).toInt64
    rw [hp_sn_n]
    by_cases e : a = o ∧ j = i
    · obtain ⟨rfl, rfl⟩ := e
      rw [pk_uLs, if_pos hk, if_pos ⟨rfl, rfl⟩]
    · rw [pk_uLn (fun e2 => e (by have := hp_p_cell (z := hp_z M) (i := 1 + j) (j := 1 + i) ha' ho (by omega) (by omega) e2; exact ⟨this.1, by omega⟩)), if_neg e]
      exact g2 j hj'
theorem hp_sl_Q {M : hp_S} (hW : hp_W M) {kd sz od lk : Nat → Int32} {nu : Nat → Int64} {rg : Nat → Int32} {ob co : Int32} (h : hp_Q M kd sz od lk nu rg ob co) {o i x : Nat} (hi : i < 40) :
    hp_Q (hp_sl M o i x) kd sz od (upd lk (40 * o + i) (nI x)) nu rg ob co := by
  obtain ⟨h1, h2, h3, h4, h5, h6⟩ := h
  refine ⟨h1, h2, h3, h4, h5, fun a ha => ?_⟩
  have ha' : a ∈ hp_L M := ha
  obtain ⟨g1, g2, g3⟩ := h6 a ha'
  refine ⟨g1, fun hk j hj => ?_, g3⟩
  have hz := (hW.2.1 a ha').2.2.2.2.1
  have hj' : j < hp_z M a := hj
  rw [hp_sl_l]
  by_cases e : a = o ∧ j = i
  · obtain ⟨rfl, rfl⟩ := e
    rw [pk_us, if_pos ⟨rfl, rfl⟩]
  · rw [pk_un (fun e2 => e (hp_40 (by omega) hi e2)), if_neg e]
    exact g2 hk j hj'
theorem hp_sn_Q {M : hp_S} (hW : hp_W M) {kd sz od lk : Nat → Int32} {nu : Nat → Int64} {rg : Nat → Int32} {ob co : Int32} (h : hp_Q M kd sz od lk nu rg ob co) {o i : Nat} {x : Int64} (hi : i < 40) :
    hp_Q (hp_sn M o i x) kd sz od lk (vp_updL nu (40 * o + i) x) rg ob co := by
  obtain ⟨h1, h2, h3, h4, h5, h6⟩ := h
  refine ⟨h1, h2, h3, h4, h5, fun a ha => ?_⟩
  have ha' : a ∈ hp_L M := ha
  obtain ⟨g1, g2, g3⟩ := h6 a ha'
  refine ⟨g1, g2, fun hk j hj => ?_⟩
  have hz := (hW.2.1 a ha').2.2.2.2.1
  have hj' : j < hp_z M a := hj
  rw [hp_sn_n]
  by_cases e : a = o ∧ j = i
  · obtain ⟨rfl, rfl⟩ := e
    rw [pk_uLs, if_pos ⟨rfl, rfl⟩]
  · rw [pk_uLn (fun e2 => e (hp_40 (by omega) hi e2)), if_neg e]
    exact g3 hk j hj'
/-! a new object -/
theorem hp_mk_z {M : hp_S} {o k n a : Nat} (h : o ∉ hp_L M) (ha : a ∈ hp_L M) : hp_z (hp_mk M o k n) a = hp_z M a := va_up_ne _ _ (fun e => h (e ▸ ha))
theorem hp_mk_k {M : hp_S} {o k n a : Nat} (h : o ∉ hp_L M) (ha : a ∈ hp_L M) : hp_k (hp_mk M o k n) a = hp_k M a := va_up_ne _ _ (fun e => h (e ▸ ha))
theorem hp_mk_l {M : hp_S} {o k n a : Nat} (h : o ∉ hp_L M) (ha : a ∈ hp_L M) : hp_l (hp_mk M o k n) a = hp_l M a := va_up_ne _ _ (fun e => h (e ▸ ha))
theorem hp_mk_n {M : hp_S} {o k n a : Nat} (h : o ∉ hp_L M) (ha : a ∈ hp_L M) : hp_n (hp_mk M o k n) a = hp_n M a := va_up_ne _ _ (fun e => h (e ▸ ha))
theorem hp_mk_tk {M : hp_S} {o k n : Nat} (h : o ∉ hp_L M) : hp_tk (hp_mk M o k n) = hp_tk M + (1 + n) := by
  have e : hp_z (hp_mk M o k n) o = n := va_up_self _ _ _
  show hp_t (hp_z (hp_mk M o k n)) (hp_L M ++ [o]) = _
  rw [hp_t_snoc, e, hp_t_congr (fun a ha => hp_mk_z h ha)]
theorem hp_mk_pl {M : hp_S} {o k n a : Nat} (h : o ∉ hp_L M) (ha : a ∈ hp_L M) : hp_pl (hp_mk M o k n) a = hp_pl M a := by
  show hp_p (hp_z (hp_mk M o k n)) (hp_L M ++ [o]) a = _
  rw [hp_p_l _ ha]
  exact hp_p_congr (fun a ha => hp_mk_z h ha)
theorem hp_mk_plo {M : hp_S} {o k n : Nat} (h : o ∉ hp_L M) : hp_pl (hp_mk M o k n) o = hp_tk M := by
  show hp_p (hp_z (hp_mk M o k n)) (hp_L M ++ [o]) o = _
  rw [hp_p_at h]
  exact hp_t_congr (fun a ha => hp_mk_z h ha)
theorem hp_mk_W {M : hp_S} (hW : hp_W M) {o k n : Nat} (h : o ∉ hp_L M) (h1 : 1 ≤ o) (h2 : o ≤ 300) (hk1 : 1 ≤ k) (hk3 : k ≤ 3) (hn : n ≤ 40) (hw : k = 3 → n = 1) (hr : hp_tk M + (1 + n) ≤ 300) : hp_W (hp_mk M o k n) := by
  obtain ⟨a1, a2, a3, a4, a5, a6⟩ := hW
  have ez : hp_z (hp_mk M o k n) o = n := va_up_self _ _ _
  have ek : hp_k (hp_mk M o k n) o = k := va_up_self _ _ _
  have el : hp_l (hp_mk M o k n) o = fun _ => 0 := va_up_self _ _ _
  refine ⟨?_, fun a ha => ?_, fun a ha => ?_, fun r hr => ?_, fun a ha hk i hi => ?_, by rw [hp_mk_tk h]; exact hr⟩
  · show (hp_L M ++ [o]).Nodup
    rw [List.nodup_append]
    exact ⟨a1, by simp, fun x hx y hy => by
      rw [List.mem_singleton] at hy
      subst hy
      exact fun e => h (e ▸ hx)⟩
  · rcases List.mem_append.mp ha with e | e
    · rw [hp_mk_z h e, hp_mk_k h e]; exact a2 a e
    · rw [List.mem_singleton] at e
      subst e
      rw [ez, ek]; exact ⟨h1, h2, hk1, hk3, hn, hw⟩
  · have e1 : a ∉ hp_L M := fun e => ha (List.mem_append.mpr (Or.inl e))
    have e2 : a ≠ o := fun e => ha (List.mem_append.mpr (Or.inr (by simp [e])))
    have : hp_k (hp_mk M o k n) a = hp_k M a := va_up_ne _ _ e2
    rw [this]; exact a3 a e1
  · rcases a4 r hr with e | e
    · exact Or.inl e
    · exact Or.inr (List.mem_append.mpr (Or.inl e))
  · rcases List.mem_append.mp ha with e | e
    · rw [hp_mk_k h e] at hk
      rw [hp_mk_z h e] at hi
      rw [hp_mk_l h e]
      rcases a5 a e hk i hi with g | g
      · exact Or.inl g
      · exact Or.inr (List.mem_append.mpr (Or.inl g))
    · rw [List.mem_singleton] at e
      subst e
      rw [el]; exact Or.inl rfl
theorem hp_mk_e {M : hp_S} {o k n x : Nat} (h : o ∉ hp_L M) (hx : x = 0 ∨ x ∈ hp_L M) : hp_e (hp_mk M o k n) x = hp_e M x := by
  unfold hp_e
  by_cases h0 : x = 0
  · rw [if_pos h0, if_pos h0]
  · rw [if_neg h0, if_neg h0, hp_mk_pl h (hx.resolve_left h0)]
theorem hp_mk_eo {M : hp_S} {o k n : Nat} (h : o ∉ hp_L M) (h1 : 1 ≤ o) : hp_e (hp_mk M o k n) o = nI (hp_tk M) := by
  rw [hp_en (by omega), hp_mk_plo h]
theorem hp_mk_C {M : hp_S} (hW : hp_W M) {ce ce' : Nat → Int64} {rg : Nat → Int32} {tk ob co : Int32} (hC : hp_C M ce rg tk ob co) {o k n : Nat} (h : o ∉ hp_L M)
    (hlo : ∀ j, j < hp_tk M → ce' j = ce j) (hh : ce' (hp_tk M) = lN (4 * n + k)) (hc : ∀ i, i < n → ce' (hp_tk M + (1 + i)) = if k = 2 then 0 else -1) :
    hp_C (hp_mk M o k n) ce' rg (nI (hp_tk M + (1 + n))) (nI ((hp_L M).length + 1)) co := by
  obtain ⟨c1, c2, c3, c4, c5⟩ := hC
  have ez : hp_z (hp_mk M o k n) o = n := va_up_self _ _ _
  have ek : hp_k (hp_mk M o k n) o = k := va_up_self _ _ _
  have el : hp_l (hp_mk M o k n) o = fun _ => 0 := va_up_self _ _ _
  have en : hp_n (hp_mk M o k n) o = fun _ => 0 := va_up_self _ _ _
  refine ⟨by rw [hp_mk_tk h], ?_, c3, fun r hr => ?_, fun a ha => ?_⟩
  · show _ = nI (hp_L M ++ [o]).length
    rw [List.length_append]; rfl
  · show _ = hp_e (hp_mk M o k n) (hp_r M r)
    rw [hp_mk_e h (hW.2.2.2.1 r hr)]; exact c4 r hr
  · rcases List.mem_append.mp ha with e | e
    · obtain ⟨g1, g2⟩ := c5 a e
      have hin := hp_p_in (z := hp_z M) e
      have hin' : hp_pl M a + (1 + hp_z M a) ≤ hp_tk M := hin
      refine ⟨?_, fun i hi => ?_⟩
      · unfold hp_h
        rw [hp_mk_pl h e, hp_mk_z h e, hp_mk_k h e, hlo _ (by omega)]; exact g1
      · rw [hp_mk_z h e] at hi
        unfold hp_v
        rw [hp_mk_pl h e, hp_mk_k h e, hp_mk_l h e, hp_mk_n h e, hlo _ (by omega), g2 i hi]
        unfold hp_v
        by_cases hk : hp_k M a = 2
        · rw [if_pos hk, if_pos hk]
        · rw [if_neg hk, if_neg hk, hp_mk_e h (hW.2.2.2.2.1 a e hk i hi)]
    · rw [List.mem_singleton] at e
      subst e
      refine ⟨?_, fun i hi => ?_⟩
      · unfold hp_h
        rw [hp_mk_plo h, ez, ek]; exact hh
      · rw [ez] at hi
        unfold hp_v
        rw [hp_mk_plo h, ek, el, en, hc i hi]
        by_cases hk : k = 2
        · rw [if_pos hk, if_pos hk]
        · rw [if_neg hk, if_neg hk, hp_e0]; decide +kernel
theorem hp_mk_Q {M : hp_S} {kd sz od lk lk' : Nat → Int32} {nu nu' : Nat → Int64} {rg : Nat → Int32} {ob co : Int32} (hQ : hp_Q M kd sz od lk nu rg ob co) (hW : hp_W M) {o k n : Nat} (h : o ∉ hp_L M) (hn : n ≤ 40)
    (hl0 : ∀ i, i < 40 → lk' (40 * o + i) = 0) (hl1 : ∀ a i, a ≠ o → i < 40 → lk' (40 * a + i) = lk (40 * a + i))
    (hn0 : ∀ i, i < 40 → nu' (40 * o + i) = 0) (hn1 : ∀ a i, a ≠ o → i < 40 → nu' (40 * a + i) = nu (40 * a + i)) :
    hp_Q (hp_mk M o k n) (upd kd o (nI k)) (upd sz o (nI n)) (upd od (hp_L M).length (nI o)) lk' nu' rg (nI ((hp_L M).length + 1)) co := by
  obtain ⟨q1, q2, q3, q4, q5, q6⟩ := hQ
  have ez : hp_z (hp_mk M o k n) o = n := va_up_self _ _ _
  have ek : hp_k (hp_mk M o k n) o = k := va_up_self _ _ _
  have el : hp_l (hp_mk M o k n) o = fun _ => 0 := va_up_self _ _ _
  have en : hp_n (hp_mk M o k n) o = fun _ => 0 := va_up_self _ _ _
  refine ⟨?_, q2, q3, fun a ha => ?_, fun j a hj => ?_, fun a ha => ?_⟩
  · show _ = nI (hp_L M ++ [o]).length
    rw [List.length_append]; rfl
  · by_cases e : a = o
    · subst e; rw [pk_us, ek]
    · have : hp_k (hp_mk M o k n) a = hp_k M a := va_up_ne _ _ e
      rw [pk_un e, this]; exact q4 a ha
  · have hj' : (hp_L M ++ [o])[j]? = some a := hj
    by_cases hlt : j < (hp_L M).length
    · rw [List.getElem?_append_left hlt] at hj'
      rw [pk_un (by omega)]; exact q5 j a hj'
    · have e : j = (hp_L M).length := by
        have := (List.getElem?_eq_some_iff.mp hj').1
        simp at this
        omega
      subst e
      simp at hj'
      subst hj'
      exact pk_us
  · rcases List.mem_append.mp ha with e | e
    · have hne : a ≠ o := fun e2 => h (e2 ▸ e)
      obtain ⟨g1, g2, g3⟩ := q6 a e
      have hz := (hW.2.1 a e).2.2.2.2.1
      rw [hp_mk_z h e, hp_mk_k h e, hp_mk_l h e, hp_mk_n h e, pk_un hne]
      exact ⟨g1, fun hk i hi => by rw [hl1 a i hne (by omega)]; exact g2 hk i hi, fun hk i hi => by rw [hn1 a i hne (by omega)]; exact g3 hk i hi⟩
    · rw [List.mem_singleton] at e
      subst e
      rw [ez, ek, el, en, pk_us]
      exact ⟨rfl, fun _ i hi => hl0 i (by omega), fun _ i hi => hn0 i (by omega)⟩
end
section
/-! the reference's own collecting: S is marked, T is the stack -/
def hp_K (M : hp_S) (S T : List Nat) (rb td : Nat → Int32) (tp : Int32) : Prop :=
  tp = nI T.length ∧ (∀ j o, T[j]? = some o → td j = nI o) ∧ S.Nodup ∧ (∀ o ∈ S, o ∈ hp_L M) ∧ (∀ o ∈ T, o ∈ S) ∧ T.Nodup ∧ ∀ o, o ≤ 300 → rb o = if o ∈ S then 1 else 0
theorem hp_K_0 {M : hp_S} {rb td : Nat → Int32} (h : ∀ o, o ≤ 300 → rb o = 0) : hp_K M [] [] rb td (nI 0) :=
  ⟨rfl, fun j o h => by simp at h, List.nodup_nil, fun _ h => absurd h List.not_mem_nil, fun _ h => absurd h List.not_mem_nil, List.nodup_nil, fun o ho => by rw [h o ho]; simp⟩
theorem hp_K_len {M : hp_S} (hW : hp_W M) {S T : List Nat} {rb td : Nat → Int32} {tp : Int32} (h : hp_K M S T rb td tp) : S.length ≤ 300 ∧ T.length ≤ S.length :=
  ⟨Nat.le_trans (hp_sub_len h.2.2.1 h.2.2.2.1) (Nat.le_trans (hp_len _ _) hW.2.2.2.2.2), hp_sub_len h.2.2.2.2.2.1 h.2.2.2.2.1⟩
theorem hp_snoc_nodup {R : List Nat} {o : Nat} (h : R.Nodup) (hn : o ∉ R) : (R ++ [o]).Nodup := by
  rw [List.nodup_append]
  exact ⟨h, by simp, fun a ha b hb => by
    rw [List.mem_singleton] at hb
    subst hb
    exact fun e => hn (e ▸ ha)⟩
theorem hp_snoc_get {R : List Nat} {f : Nat → Int32} {v o : Nat} (h : ∀ j x, R[j]? = some x → f j = nI x) : ∀ j x, (R ++ [o])[j]? = some x → upd f R.length (nI o) j = nI x := by
  intro j x hx
  by_cases hj : j < R.length
  · rw [List.getElem?_append_left hj] at hx
    rw [pk_un (by omega)]
    exact h j x hx
  · have hj2 : j = R.length := by
      have := (List.getElem?_eq_some_iff.mp hx).1
      simp at this
      omega
    subst hj2
    simp at hx
    subst hx
    exact pk_us
theorem hp_K_add {M : hp_S} {S T : List Nat} {rb td : Nat → Int32} {tp : Int32} (h : hp_K M S T rb td tp) {o : Nat} (ho : o ∈ hp_L M) (hn : o ∉ S) :
    hp_K M (S ++ [o]) (T ++ [o]) (upd rb o 1) (upd td T.length (nI o)) (nI (T.length + 1)) := by
  obtain ⟨h1, h2, h3, h4, h5, h6, h7⟩ := h
  refine ⟨by simp, hp_snoc_get (v := 0) h2, hp_snoc_nodup h3 hn, fun x hx => ?_, fun x hx => ?_, hp_snoc_nodup h6 (fun e => hn (h5 o e)), fun x hx => ?_⟩
  · rcases List.mem_append.mp hx with e | e
    · exact h4 x e
    · rw [List.mem_singleton] at e; exact e ▸ ho
  · rcases List.mem_append.mp hx with e | e
    · exact List.mem_append.mpr (Or.inl (h5 x e))
    · exact List.mem_append.mpr (Or.inr e)
  · by_cases e : x = o
    · subst e
      rw [pk_us, if_pos (by simp)]
    · rw [pk_un e, h7 x hx]
      have : (x ∈ S ++ [o]) ↔ x ∈ S := by simp [e]
      by_cases hR : x ∈ S
      · rw [if_pos hR, if_pos (this.mpr hR)]
      · rw [if_neg hR, if_neg (fun h => hR (this.mp h))]
theorem hp_K_pop {M : hp_S} {S T : List Nat} {o : Nat} {rb td : Nat → Int32} {tp : Int32} (h : hp_K M S (T ++ [o]) rb td tp) : hp_K M S T rb td (nI T.length) ∧ td T.length = nI o ∧ o ∈ S ∧ o ∉ T := by
  obtain ⟨h1, h2, h3, h4, h5, h6, h7⟩ := h
  have h8 := h6
  rw [List.nodup_append] at h8
  refine ⟨⟨rfl, fun j x hx => h2 j x (by rw [List.getElem?_append_left (List.getElem?_eq_some_iff.mp hx).1]; exact hx), h3, h4, fun x hx => h5 x (List.mem_append.mpr (Or.inl hx)), h8.1, h7⟩, h2 _ _ (by simp), h5 o (by simp), fun e => h8.2.2 o e o (by simp) rfl⟩
/-- all that is marked and not on the stack has been looked into, but o: its first i references have -/
def hp_Y (M : hp_S) (S T : List Nat) (o i : Nat) : Prop :=
  (∀ x ∈ S, hp_R M x) ∧ (∀ x ∈ S, x ∉ T → hp_k M x = 1 → ∀ j, j < hp_z M x → (x = o → j < i) → hp_l M x j ≠ 0 → hp_l M x j ∈ S)
def hp_Yr (M : hp_S) (S : List Nat) (n : Nat) : Prop := ∀ r, r < n → hp_r M r ≠ 0 → hp_r M r ∈ S
theorem hp_Yr_up {M : hp_S} {S S' : List Nat} {n : Nat} (h : hp_Yr M S n) (hs : ∀ x ∈ S, x ∈ S') : hp_Yr M S' n := fun r hr hn => hs _ (h r hr hn)
theorem hp_Yr_s {M : hp_S} {S : List Nat} {n : Nat} (h : hp_Yr M S n) (hs : hp_r M n ≠ 0 → hp_r M n ∈ S) : hp_Yr M S (n + 1) := fun r hr hn => by
  by_cases e : r = n
  · subst e; exact hs hn
  · exact h r (by omega) hn
/-- a new mark goes on the stack -/
theorem hp_Y_push {M : hp_S} {S T : List Nat} {o i x : Nat} (h : hp_Y M S T o i) (hx : hp_R M x) : hp_Y M (S ++ [x]) (T ++ [x]) o i := by
  refine ⟨fun a ha => ?_, fun a ha hT hk j hj hji hn => ?_⟩
  · rcases List.mem_append.mp ha with e | e
    · exact h.1 a e
    · rw [List.mem_singleton] at e; exact e ▸ hx
  · rcases List.mem_append.mp ha with e | e
    · exact List.mem_append.mpr (Or.inl (h.2 a e (fun z => hT (List.mem_append.mpr (Or.inl z))) hk j hj hji hn))
    · exact absurd (List.mem_append.mpr (Or.inr e)) hT
theorem hp_Y_s {M : hp_S} {S T : List Nat} {o i : Nat} (h : hp_Y M S T o i) (hi : hp_l M o i ≠ 0 → hp_l M o i ∈ S) : hp_Y M S T o (i + 1) := by
  refine ⟨h.1, fun a ha hT hk j hj hji hn => ?_⟩
  by_cases e : a = o
  · subst e
    by_cases e2 : j = i
    · subst e2; exact hi hn
    · exact h.2 a ha hT hk j hj (fun _ => by have := hji rfl; omega) hn
  · exact h.2 a ha hT hk j hj (fun z => absurd z e) hn
/-- begun anew with the top of the stack -/
theorem hp_Y_pop {M : hp_S} {S T : List Nat} {o p i : Nat} (h : hp_Y M S (T ++ [o]) p i) (hp : hp_z M p ≤ i ∨ hp_k M p ≠ 1 ∨ p ∉ S) : hp_Y M S T o 0 := by
  refine ⟨h.1, fun a ha hT hk j hj hji hn => ?_⟩
  by_cases e : a = o
  · exact absurd (hji e) (Nat.not_lt_zero _)
  · refine h.2 a ha (fun z => ?_) hk j hj (fun z => ?_) hn
    · rcases List.mem_append.mp z with g | g
      · exact hT g
      · rw [List.mem_singleton] at g; exact e g
    · subst z
      rcases hp with g | g | g
      · omega
      · exact absurd hk g
      · exact absurd ha g
theorem hp_Y_end {M : hp_S} {S : List Nat} {p i : Nat} (h : hp_Y M S [] p i) (hp : hp_z M p ≤ i ∨ hp_k M p ≠ 1 ∨ p ∉ S) (hr : hp_Yr M S 16) (o : Nat) : o ∈ S ↔ hp_b M o = true := by
  rw [hp_b_iff]
  refine ⟨h.1 o, fun hR => hR (fun x => x ∈ S) hr (fun a j ha hk hj hn => ?_)⟩
  refine h.2 a ha List.not_mem_nil hk j hj (fun z => ?_) hn
  subst z
  rcases hp with g | g | g
  · omega
  · exact absurd hk g
  · exact absurd ha g
theorem hp_Y_0 (M : hp_S) : hp_Y M [] [] 0 0 := ⟨fun _ h => absurd h List.not_mem_nil, fun _ h => absurd h List.not_mem_nil⟩
/-- pre has been gone through: what isn't reached is freed, the others stand together -/
def hp_G (M : hp_S) (pre suf : List Nat) (kd od lk : Nat → Int32) : Prop :=
  (∀ o, o ≤ 300 → kd o = nI (if o ∈ pre ∧ hp_b M o = false then 0 else hp_k M o)) ∧ (∀ j o, (pre.filter (hp_b M))[j]? = some o → od j = nI o) ∧ (∀ j o, suf[j]? = some o → od (pre.length + j) = nI o) ∧
  ∀ o ∈ hp_L M, hp_k M o ≠ 2 → ∀ i, i < hp_z M o → lk (40 * o + i) = nI (if o ∈ pre ∧ hp_b M o = true then hp_l (hp_col M) o i else hp_l M o i)
theorem hp_G_0 {M : hp_S} {kd sz od lk : Nat → Int32} {nu : Nat → Int64} {rg : Nat → Int32} {ob co : Int32} (h : hp_Q M kd sz od lk nu rg ob co) : hp_G M [] (hp_L M) kd od lk := by
  obtain ⟨h1, h2, h3, h4, h5, h6⟩ := h
  refine ⟨fun o ho => by rw [h4 o ho]; simp, fun j o h => by simp at h, fun j o h => by simpa using h5 j o h, fun o ho hk i hi => by rw [(h6 o ho).2.1 hk i hi]; simp⟩
theorem hp_G_k {M : hp_S} (hW : hp_W M) {pre suf : List Nat} {o : Nat} {kd od lk : Nat → Int32} (hL : hp_L M = pre ++ o :: suf) (h : hp_G M pre (o :: suf) kd od lk) : od pre.length = nI o ∧ kd o = nI (hp_k M o) ∧ (hp_k M o ≠ 2 → ∀ i, i < hp_z M o → lk (40 * o + i) = nI (hp_l M o i)) := by
  have hn := hW.1
  rw [hL] at hn
  have n1 := (hp_not_in hn).1
  have ho : o ∈ hp_L M := by rw [hL]; simp
  obtain ⟨h1, h2, h3, h4⟩ := h
  refine ⟨by simpa using h3 0 o rfl, by rw [h1 o (hW.2.1 o ho).2.1, if_neg (fun z => n1 z.1)], fun hk i hi => by rw [h4 o ho hk i hi, if_neg (fun z => n1 z.1)]⟩
theorem hp_filter_len (b : Nat → Bool) (l : List Nat) : (l.filter b).length ≤ l.length := List.length_filter_le _ _
theorem hp_G_f {M : hp_S} (hW : hp_W M) {pre suf : List Nat} {o : Nat} {kd od lk : Nat → Int32} (hL : hp_L M = pre ++ o :: suf) (h : hp_G M pre (o :: suf) kd od lk) (hb : hp_b M o = false) : hp_G M (pre ++ [o]) suf (upd kd o 0) od lk := by
  have hb' : ¬ hp_b M o = true := by rw [hb]; simp
  obtain ⟨h1, h2, h3, h4⟩ := h
  refine ⟨fun x hx => ?_, by rw [hp_filter_f M pre hb']; exact h2, fun j x hx => ?_, fun x hx hk i hi => ?_⟩
  · by_cases e : x = o
    · subst e
      rw [pk_us, if_pos ⟨by simp, hb⟩, nI_0]
    · rw [pk_un e, h1 x hx]
      have : (x ∈ pre ++ [o]) ↔ x ∈ pre := by simp [e]
      simp only [this]
  · have := h3 (j + 1) x (by simpa using hx)
    rw [List.length_append]
    simp only [List.length_cons, List.length_nil]
    rw [show pre.length + (0 + 1) + j = pre.length + (j + 1) by omega]
    exact this
  · rw [h4 x hx hk i hi]
    by_cases e : x = o
    · subst e
      rw [if_neg (fun z => hb' z.2), if_neg (fun z => hb' z.2)]
    · have : (x ∈ pre ++ [o]) ↔ x ∈ pre := by simp [e]
      simp only [this]
theorem hp_G_t {M : hp_S} (hW : hp_W M) {pre suf : List Nat} {o : Nat} {kd od lk lk' : Nat → Int32} (hL : hp_L M = pre ++ o :: suf) (h : hp_G M pre (o :: suf) kd od lk) (hb : hp_b M o = true)
    (hl : ∀ x i, x ≠ o → i < 40 → lk' (40 * x + i) = lk (40 * x + i)) (hl2 : hp_k M o ≠ 2 → ∀ i, i < hp_z M o → lk' (40 * o + i) = nI (hp_l (hp_col M) o i)) :
    hp_G M (pre ++ [o]) suf kd (upd od (pre.filter (hp_b M)).length (nI o)) lk' := by
  obtain ⟨h1, h2, h3, h4⟩ := h
  have hle := hp_filter_len (hp_b M) pre
  refine ⟨fun x hx => ?_, by rw [hp_filter_t M pre hb]; exact hp_snoc_get (v := 0) h2, fun j x hx => ?_, fun x hx hk i hi => ?_⟩
  · rw [h1 x hx]
    by_cases e : x = o
    · subst e
      rw [if_neg (fun z => by rw [hb] at z; cases z.2), if_neg (fun z => by rw [hb] at z; cases z.2)]
    · have : (x ∈ pre ++ [o]) ↔ x ∈ pre := by simp [e]
      simp only [this]
  · have := h3 (j + 1) x (by simpa using hx)
    rw [List.length_append]
    simp only [List.length_cons, List.length_nil]
    rw [show pre.length + (0 + 1) + j = pre.length + (j + 1) by omega, pk_un (by omega)]
    exact this
  · by_cases e : x = o
    · subst e
      rw [if_pos ⟨by simp, hb⟩]
      exact hl2 hk i hi
    · have hz := (hW.2.1 x hx).2.2.2.2.1
      rw [hl x i e (by omega), h4 x hx hk i hi]
      have : (x ∈ pre ++ [o]) ↔ x ∈ pre := by simp [e]
      simp only [this]
theorem hp_Q_col {M : hp_S} (hW : hp_W M) {kd sz od lk kd' od' lk' : Nat → Int32} {nu : Nat → Int64} {rg : Nat → Int32} {ob co : Int32} (h : hp_Q M kd sz od lk nu rg ob co) (hG : hp_G M (hp_L M) [] kd' od' lk') :
    hp_Q (hp_col M) kd' sz od' lk' nu rg (nI (hp_L2 M).length) (co + 1) := by
  obtain ⟨q1, q2, q3, q4, q5, q6⟩ := h
  obtain ⟨h1, h2, h3, h4⟩ := hG
  refine ⟨rfl, by rw [q2]; rfl, q3, fun o ho => ?_, h2, fun o ho => ?_⟩
  · rw [h1 o ho]
    show _ = nI (if hp_b M o = true then hp_k M o else 0)
    congr 1
    by_cases hL : o ∈ hp_L M
    · cases hb : hp_b M o
      · rw [if_pos ⟨hL, rfl⟩]; simp
      · simp
    · rw [hW.2.2.1 o hL]; simp
  · have hbo : hp_b M o = true := (hp_in2 hW).mp ho
    have hL := hp_b_in hW hbo
    have e2 : hp_k (hp_col M) o = hp_k M o := if_pos hbo
    obtain ⟨g1, g2, g3⟩ := q6 o hL
    rw [e2]
    refine ⟨g1, fun hk i hi => ?_, g3⟩
    rw [h4 o hL hk i hi, if_pos ⟨hL, hbo⟩]
end
section
/-! what each call does to a heap M: a code (0: it is done; else which refusal) and the heap behind it -/
def hp_bad (x : Int32) (n : Nat) : Prop := x < 0 ∨ nI n ≤ x
theorem hp_ok {x : Int32} {n : Nat} (h : ¬ hp_bad x n) (hn : n < 2 ^ 31) : ∃ j, j < n ∧ x = nI j := by
  rcases pk_ix x hn with e | e | e
  · exact absurd (Or.inl e) h
  · exact absurd (Or.inr e) h
  · exact e
theorem hp_ok2 {j n : Nat} (h : j < n) (hn : n < 2 ^ 31) : ¬ hp_bad (nI j) n := by
  rintro (e | e)
  · exact nI_pos (by omega) e
  · exact nI_ge h hn e
/-- the object of register x -/
def hp_at (M : hp_S) (x : Int32) : Nat := hp_r M x.toNatClampNeg
theorem hp_at_n {M : hp_S} {j : Nat} (h : j < 16) : hp_at M (nI j) = hp_r M j := by
  unfold hp_at; rw [nI_clamp (by omega)]
/-- code of a call on the object o at index i: missing, bad, or done; ok: its kind fits -/
def hp_cd (M : hp_S) (o : Nat) (i : Int32) (ok : Prop) (k : Nat) : Prop :=
  (o = 0 ∧ k = 2) ∨ (o ≠ 0 ∧ (¬ ok ∨ hp_bad i (hp_z M o)) ∧ k = 1) ∨ (o ≠ 0 ∧ ok ∧ ¬ hp_bad i (hp_z M o) ∧ k = 0)
theorem hp_cd_u {M : hp_S} {o : Nat} {i : Int32} {ok : Prop} {k k' : Nat} (h : hp_cd M o i ok k) (h' : hp_cd M o i ok k') : k = k' := by
  rcases h with ⟨a, b⟩ | ⟨a, b, c⟩ | ⟨a, b, c, d⟩ <;> rcases h' with ⟨a', b'⟩ | ⟨a', b', c'⟩ | ⟨a', b', c', d'⟩
  · omega
  · exact absurd a a'
  · exact absurd a a'
  · exact absurd a' a
  · omega
  · rcases b with b | b
    · exact absurd b' b
    · exact absurd b c'
  · exact absurd a' a
  · rcases b' with b' | b'
    · exact absurd b b'
    · exact absurd b' c
  · omega
/-- room for n more contents, collecting where there isn't -/
noncomputable def hp_rm (M : hp_S) (n : Nat) : hp_S := if hp_tk M + (1 + n) ≤ 300 then M else hp_col M
theorem hp_rm_W {M : hp_S} (hW : hp_W M) (n : Nat) : hp_W (hp_rm M n) := by
  unfold hp_rm
  split
  · exact hW
  · exact hp_col_W hW
end
section
/-! rows of our own over the kit's: indices that are small naturals, a method's pre and post, calls on the same world -/
section HW
variable {p : Program} {l : Launch} {e : Env} {R : Room} {s : State} {m : MethodId} {args : Array Value} {below : List Frame} {meth : Method} {c : Code} {H : Heap} {locs : List Loc} {cells slots : Nat} {Q : State → Prop}
variable {cc : ByteArray} {pc : Nat} {ls : Array Slot} {rest : List Value} {D : va_G} {cl : List vw_C} {A : Nat → Prop} {a : Nat} {tys : List (ClassId × FieldType)} {ws : va_W} {H0 : Heap}
theorem hw_topi {x y : Int32} (h : x = y) (k : W p l e R s m args below meth c H locs cells slots Q (F0 m pc ls (.int y :: rest))) : W p l e R s m args below meth c H locs cells slots Q (F0 m pc ls (.int x :: rest)) := by
  rw [h]; exact k
theorem hw_topl {x y : Int64} (h : x = y) (k : W p l e R s m args below meth c H locs cells slots Q (F0 m pc ls (.long y :: rest))) : W p l e R s m args below meth c H locs cells slots Q (F0 m pc ls (.long x :: rest)) := by
  rw [h]; exact k
theorem hw_iald (hexec : p.tables.exec = Jvm.exec) (hb : c.code = cc) (hK : va_K D cl tys s) (hP : va_P D cl ws H) (q0 t0 : Nat) {cA : ClassId} {n : Nat} {f : Nat → Int32} (ha : ws[q0]? = some (a, .inl (cA, n, .inl f))) (ht : tys[t0]? = some (cA, .int)) {i : Int32} {j : Nat} (hi : i = nI j) (hj : j < n) (hn : n < 2 ^ 31) (hdg : decode cc pc = .ok (.iaload, 1))
    (kk : W p l e R s m args below meth c H locs cells slots Q (F0 m (pc + 1) ls (.int (f j) :: rest))) : W p l e R s m args below meth c H locs cells slots Q (F0 m pc ls (.int i :: .ref a :: rest)) := by
  subst hi
  refine va_iald hexec hb hK hP q0 t0 ha ht (vp_in_nI hj hn) hdg ?_
  rw [nI_clamp (Nat.lt_trans hj hn)]
  exact kk
theorem hw_zald (hexec : p.tables.exec = Jvm.exec) (hb : c.code = cc) (hK : va_K D cl tys s) (hP : va_P D cl ws H) (q0 t0 : Nat) {cA : ClassId} {n : Nat} {f : Nat → Int32} (ha : ws[q0]? = some (a, .inl (cA, n, .inl f))) (ht : tys[t0]? = some (cA, .boolean)) {i : Int32} {j : Nat} (hi : i = nI j) (hj : j < n) (hn : n < 2 ^ 31) (hdg : decode cc pc = .ok (.baload, 1))
    (kk : W p l e R s m args below meth c H locs cells slots Q (F0 m (pc + 1) ls (.int (f j) :: rest))) : W p l e R s m args below meth c H locs cells slots Q (F0 m pc ls (.int i :: .ref a :: rest)) := by
  subst hi
  refine va_zald hexec hb hK hP q0 t0 ha ht (vp_in_nI hj hn) hdg ?_
  rw [nI_clamp (Nat.lt_trans hj hn)]
  exact kk
theorem hw_lald (hexec : p.tables.exec = Jvm.exec) (hb : c.code = cc) (hK : va_K D cl tys s) (hP : va_P D cl ws H) (q0 t0 : Nat) {cA : ClassId} {n : Nat} {f : Nat → Int64} (ha : ws[q0]? = some (a, .inl (cA, n, .inr (.inl f)))) (ht : tys[t0]? = some (cA, .long)) {i : Int32} {j : Nat} (hi : i = nI j) (hj : j < n) (hn : n < 2 ^ 31) (hdg : decode cc pc = .ok (.laload, 1))
    (kk : W p l e R s m args below meth c H locs cells slots Q (F0 m (pc + 1) ls (.long (f j) :: rest))) : W p l e R s m args below meth c H locs cells slots Q (F0 m pc ls (.int i :: .ref a :: rest)) := by
  subst hi
  refine va_lald hexec hb hK hP q0 t0 ha ht (vp_in_nI hj hn) hdg ?_
  rw [nI_clamp (Nat.lt_trans hj hn)]
  exact kk
theorem hw_iast (hexec : p.tables.exec = Jvm.exec) (hb : c.code = cc) (hK : va_K D cl tys s) (hP : va_P D cl ws H) (hD : va_D A ws) (hS : va_S A H0 H locs) (q0 t0 : Nat) {cA : ClassId} {n : Nat} {f : Nat → Int32} (ha : ws[q0]? = some (a, .inl (cA, n, .inl f))) (ht : tys[t0]? = some (cA, .int)) {i : Int32} {x : Int32} {j : Nat} (hi : i = nI j) (hj : j < n) (hn : n < 2 ^ 31) (hdg : decode cc pc = .ok (.iastore, 1))
    (kk : ∀ (H1 : Heap) (locs1 : List Loc), va_P D cl (ws.set q0 (a, .inl (cA, n, .inl (upd f j x)))) H1 → va_D A (ws.set q0 (a, .inl (cA, n, .inl (upd f j x)))) → va_S A H0 H1 locs1 → W p l e R s m args below meth c H1 locs1 cells slots Q (F0 m (pc + 1) ls rest)) : W p l e R s m args below meth c H locs cells slots Q (F0 m pc ls (.int x :: .int i :: .ref a :: rest)) := by
  subst hi
  refine va_iast hexec hb hK hP hD hS q0 t0 ha ht (vp_in_nI hj hn) hdg ?_
  rw [nI_clamp (Nat.lt_trans hj hn)]
  exact kk
theorem hw_zast (hexec : p.tables.exec = Jvm.exec) (hb : c.code = cc) (hK : va_K D cl tys s) (hP : va_P D cl ws H) (hD : va_D A ws) (hS : va_S A H0 H locs) (q0 t0 : Nat) {cA : ClassId} {n : Nat} {f : Nat → Int32} (ha : ws[q0]? = some (a, .inl (cA, n, .inl f))) (ht : tys[t0]? = some (cA, .boolean)) {i : Int32} {x : Int32} {j : Nat} (hi : i = nI j) (hj : j < n) (hn : n < 2 ^ 31) (hx : vp_nar .boolean x = x) (hdg : decode cc pc = .ok (.bastore, 1))
    (kk : ∀ (H1 : Heap) (locs1 : List Loc), va_P D cl (ws.set q0 (a, .inl (cA, n, .inl (upd f j x)))) H1 → va_D A (ws.set q0 (a, .inl (cA, n, .inl (upd f j x)))) → va_S A H0 H1 locs1 → W p l e R s m args below meth c H1 locs1 cells slots Q (F0 m (pc + 1) ls rest)) : W p l e R s m args below meth c H locs cells slots Q (F0 m pc ls (.int x :: .int i :: .ref a :: rest)) := by
  subst hi
  refine va_zast hexec hb hK hP hD hS q0 t0 ha ht (vp_in_nI hj hn) hdg ?_
  rw [nI_clamp (Nat.lt_trans hj hn), hx]
  exact kk
theorem hw_last (hexec : p.tables.exec = Jvm.exec) (hb : c.code = cc) (hK : va_K D cl tys s) (hP : va_P D cl ws H) (hD : va_D A ws) (hS : va_S A H0 H locs) (q0 t0 : Nat) {cA : ClassId} {n : Nat} {f : Nat → Int64} (ha : ws[q0]? = some (a, .inl (cA, n, .inr (.inl f)))) (ht : tys[t0]? = some (cA, .long)) {i : Int32} {x : Int64} {j : Nat} (hi : i = nI j) (hj : j < n) (hn : n < 2 ^ 31) (hdg : decode cc pc = .ok (.lastore, 1))
    (kk : ∀ (H1 : Heap) (locs1 : List Loc), va_P D cl (ws.set q0 (a, .inl (cA, n, .inr (.inl (vp_updL f j x))))) H1 → va_D A (ws.set q0 (a, .inl (cA, n, .inr (.inl (vp_updL f j x))))) → va_S A H0 H1 locs1 → W p l e R s m args below meth c H1 locs1 cells slots Q (F0 m (pc + 1) ls rest)) : W p l e R s m args below meth c H locs cells slots Q (F0 m pc ls (.long x :: .int i :: .ref a :: rest)) := by
  subst hi
  refine va_last hexec hb hK hP hD hS q0 t0 ha ht (vp_in_nI hj hn) hdg ?_
  rw [nI_clamp (Nat.lt_trans hj hn)]
  exact kk
end HW
/-- what a method finds: its world ws, in a heap of sz cells -/
def hw_pre (D : va_G) (cl : List vw_C) (tys : List (ClassId × FieldType)) (ws : va_W) (sz : Nat) (U : State) : Prop := U.heap.size = sz ∧ va_P D cl ws U.heap ∧ va_K D cl tys U ∧ va_D (fun _ => True) ws
/-- what it leaves -/
def hw_B (D : va_G) (cl : List vw_C) (tys : List (ClassId × FieldType)) (A : Nat → Prop) (ws : va_W) (t : State) : Prop := va_P D cl ws t.heap ∧ va_K D cl tys t ∧ va_D A ws
theorem hw_blind {D : va_G} {cl : List vw_C} {tys : List (ClassId × FieldType)} {ws : va_W} {sz : Nat} {av : List Value} : FrameBlind (va_Pc av (hw_pre D cl tys ws sz)) := fun a U g mk q => by
  obtain ⟨q0, q1, qP, qK, qD⟩ := q
  exact ⟨q0, q1, qP, va_K.moved (u := U) (U := U.calling g mk a) (Vm.Alike.refl U.vm) qK, qD⟩
theorem hw_pay {D : va_G} {cl : List vw_C} {tys : List (ClassId × FieldType)} {ws : va_W} {av : List Value} {A : Nat → Prop} {s : State} {H : Heap} (hP : va_P D cl ws H) (hK : va_K D cl tys s) (hD : va_D A ws) : ∀ U : State, U.heap = H → s.WarmedH U.vm → va_Pc av (hw_pre D cl tys ws H.size) av.toArray U :=
  fun U hU hW => ⟨rfl, by rw [hU], by rw [hU]; exact hP, va_K.moved hW.alike hK, hD.weaken (fun _ _ _ _ => trivial)⟩
theorem hw_sub {A : Nat → Prop} {ws : va_W} {H0 H : Heap} {locs : List Loc} (hD : va_D A ws) (hS : va_S A H0 H locs) (hA : ∀ q, H0.size ≤ q → A q) : ∀ q, va_A ws H.size q → A q := by
  rintro q (⟨k, e, h⟩ | h)
  · exact hD.2 k (q, e) h
  · exact hA q (Nat.le_trans hS.1 h)
section HC
variable {p : Program} {l : Launch} {e : Env} {R : Room} {s : State} {m : MethodId} {args : Array Value} {below : List Frame} {meth : Method} {c : Code} {H : Heap} {locs : List Loc} {cells slots : Nat} {Q : State → Prop}
variable {pc : Nat} {ls : Array Slot} {st0 rest : List Value} {D : va_G} {cl : List vw_C} {A : Nat → Prop} {a : Array Value} {tys : List (ClassId × FieldType)} {ws : va_W} {H0 : Heap} {mc ms : Nat}
/-- a void call that takes the whole world along -/
theorem hw_callv {S : Type} {post : S → Prop} {wf : S → va_W} (hr : va_Run p l e R s m args below meth c H locs cells slots mc ms (F0 m pc ls st0) rest (va_Qv post (fun u t => hw_B D cl tys (va_A ws H.size) (wf u) t) (va_A ws H.size) a) (va_A ws H.size)) (hD : va_D A ws) (hS : va_S A H0 H locs) (hA : ∀ q, H0.size ≤ q → A q)
    (kk : ∀ (u : S) (H1 : Heap) (locs1 : List Loc), post u → va_P D cl (wf u) H1 → va_D A (wf u) → va_S A H0 H1 locs1 → W p l e R s m args below meth c H1 locs1 (cells + mc) (slots + ms) Q (F0 m (pc + 3) ls rest)) : W p l e R s m args below meth c H locs cells slots Q (F0 m pc ls st0) := by
  have hF := hw_sub hD hS hA
  refine va_callv hr hS (fun q _ h => hF q h) hF (fun u t H1 locs1 ht hvm hp hB hz hk hS1 => ?_)
  exact kk u H1 locs1 hp (by rw [← ht]; exact hB.1) (hB.2.2.weaken (fun _ _ _ h => hF _ h)) hS1
theorem hw_calli {S : Type} {post : Int32 → S → Prop} {wf : S → va_W} (hr : va_Run p l e R s m args below meth c H locs cells slots mc ms (F0 m pc ls st0) rest (va_Qi post (fun u t => hw_B D cl tys (va_A ws H.size) (wf u) t) (va_A ws H.size) a) (va_A ws H.size)) (hD : va_D A ws) (hS : va_S A H0 H locs) (hA : ∀ q, H0.size ≤ q → A q)
    (kk : ∀ (r : Int32) (u : S) (H1 : Heap) (locs1 : List Loc), post r u → va_P D cl (wf u) H1 → va_D A (wf u) → va_S A H0 H1 locs1 → W p l e R s m args below meth c H1 locs1 (cells + mc) (slots + ms) Q (F0 m (pc + 3) ls (.int r :: rest))) : W p l e R s m args below meth c H locs cells slots Q (F0 m pc ls st0) := by
  have hF := hw_sub hD hS hA
  refine va_calli hr hS (fun q _ h => hF q h) hF (fun r u t H1 locs1 ht hvm hp hB hz hk hS1 => ?_)
  exact kk r u H1 locs1 hp (by rw [← ht]; exact hB.1) (hB.2.2.weaken (fun _ _ _ h => hF _ h)) hS1
end HC
end
section
/-! ===== BEGIN exceptions that leave a method, and their catching by the caller (launches without stack traces) ===== -/
section VXA
/-! The laws vx_back, vx_callV, vx_callS, vx_callSW, vx_throw0, vx_throwS follow proofs of the library, with one case more: JvmDerived/Free/Laws.lean (Back.of_free), Shelf42/LK1.lean (callV, callS), Shelf/KitTraced.lean (throwNew0V, throwNewS). -/
/-- where a method has thrown q: the class by its name, the cell, what was written, the world -/
def vx_T (XC : String → State → State → Prop) (st : State) (q : Addr) (t : State) (mc ms : Nat) (free : Addr → Prop) : Prop :=
  ∃ (E : String) (ce : Cell) (L : List Loc), XC E st t ∧ t.heap[q]? = some ce ∧ ce.vm = .none ∧ st.vm.findClass E = some ce.cls ∧ st.WarmedH t.vm ∧ st.sameButNew ({ t with vm := st.vm } : State) L mc ms ∧ ∀ z ∈ L, free z.base
def vx_Q (Qc : Array Value → State → Outcome → State → Prop) (XC : String → State → State → Prop) (mc ms : Nat) (free : Addr → Prop) : Array Value → State → Outcome → State → Prop := fun a st o t =>
  (Qc a st o t ∧ ∃ L, FrameEnd st o t L mc ms ∧ ∀ q ∈ L, free q.base) ∨ ∃ q, o = .threw q ∧ vx_T XC st q t mc ms free
/-- a callee that returns or throws -/
def vx_Met (l : Launch) (y : MethodName) (ws : List Cond) (rm : Room) (Pc : Array Value → State → Prop) (Qc : Array Value → State → Outcome → State → Prop) (XC : String → State → State → Prop) (mc ms : Nat) (free : Addr → Prop) : Prop :=
  MetFree l y (headSpec ws rm) Pc (fun _ _ _ _ _ => True) (vx_Q Qc XC mc ms free)
def vx_Post (XC : String → State → State → Prop) (mc ms : Nat) (free : Addr → Prop) : Pt → Array Value → Addr → Pt → Prop := fun A a q B =>
  ∃ (g : JFrame) (mk : MethodId) (t : State) (L : List Loc) (E : String) (ce : Cell), B.U.heap = t.heap ∧ B.U.vm = t.vm ∧ XC E (A.U.calling g mk a) t ∧ t.heap[q]? = some ce ∧ ce.vm = .none ∧ A.U.vm.findClass E = some ce.cls ∧ B.locs = A.locs ++ L ∧ (∀ z ∈ L, free z.base) ∧ B.cells = A.cells + mc ∧ B.slots = A.slots + ms
def vx_Back (l : Launch) (R : Room) (p : Program) (e : Env) (below : List Frame) (s : State) (sargs : Array Value) (y : MethodName) (len W9 : Nat)
    (Pre : Pt → Array Value → Prop) (Post : Pt → Array Value → Option Value → Pt → Prop) (PostX : Pt → Array Value → Addr → Pt → Prop) : Prop :=
  ∀ (m : MethodId) (meth : Method) (c : Code) (A : Pt) (g : JFrame) (ig : Instr) (mk : MethodId) (a : Array Value),
    Stand p l e R s m sargs below meth c A.U A.locs A.cells A.slots → g.method = m → g.locals.size = c.maxLocals → decode c.code g.pc = .ok (ig, len) →
    2 * g.monitorRoom + (g.stack.map fun v => v.category).sum ≤ W9 → A.U.methodNamed? y = some mk → Pre A a →
    (∃ (v : Option Value) (B : Pt), Stand p l e R s m sargs below meth c B.U B.locs B.cells B.slots ∧ Post A a v B ∧
      Steps p.tables e below (doInvoke e (A.U.setTop g) [] mk a).1 (B.U.setTop { g with pc := g.pc + len, stack := v.toList ++ g.stack })) ∨
    (∃ (q : Addr) (B : Pt), Stand p l e R s m sargs below meth c B.U B.locs B.cells B.slots ∧ PostX A a q B ∧
      Steps p.tables e below (doInvoke e (A.U.setTop g) [] mk a).1 ((B.U.setTop g).pushFrame (.throwing q)))
section Payer
variable {l : Launch} {R : Room} {p : Program} {e : Env} {below : List Frame} {s : State} {sargs : Array Value} {y : MethodName} {len W9 : Nat}
theorem vx_back {ws : List Cond} {rm : Room} {Pc : Array Value → State → Prop} {Qc : Array Value → State → Outcome → State → Prop} {XC : String → State → State → Prop} {mc ms : Nat} {free : Addr → Prop} {bytes : ByteArray} {maxL : Nat} {ret : Option FieldType}
    (hM : vx_Met l y ws rm Pc Qc XC mc ms free) (hblind : FrameBlind Pc) (hrc : rm.cells = mc) (hrs : rm.slots = ms)
    (hframes : rm.frames + 1 ≤ R.frames) (hlocals : W9 + (maxL + 11) + rm.locals ≤ R.locals)
    (hws : ∀ w ∈ ws, ∀ a' U, s.WarmedH U.vm → w.before a' U = true) (hcode : Cond.code y bytes maxL ret ∈ ws) (hinit : ∀ a' U, s.WarmedH U.vm → (Cond.initialized y.cls).before a' U = true) :
    vx_Back l R p e below s sargs y len W9 (PreOf R mc ms Pc) (PostOf Qc mc ms free) (vx_Post XC mc ms free) := by
  intro m meth c A g ig mk a X hg hsize hdg hW hn hp
  have h1 : (headSpec ws rm).pre.before a A.U = true := atoms_intro fun w hw => hws w hw _ _ X.warmed
  have h2 : (Cond.code y bytes maxL ret).before a A.U = true := hws _ hcode _ _ X.warmed
  have h3 : (Cond.initialized y.cls).before a A.U = true := hinit _ _ X.warmed
  have h4 : A.cells + (headSpec ws rm).room.cells ≤ R.cells := by rw [show (headSpec ws rm).room.cells = mc from hrc]; exact hp.1
  have h5 : A.slots + (headSpec ws rm).room.slots ≤ R.slots := by rw [show (headSpec ws rm).room.slots = ms from hrs]; exact hp.2.1
  have hPc : Pc a (A.U.calling g mk a) := hblind _ _ _ _ hp.2.2
  obtain ⟨U, Ls, c0, s0⟩ := A
  dsimp only [Pt.U, Pt.locs, Pt.cells, Pt.slots] at h1 h2 h3 h4 h5 X hn hPc ⊢
  obtain ⟨methY, cY, hmY, hcY, -, hlY, -, -, -, -⟩ := Cond.code_spec hn h2
  obtain ⟨kY, hkY, -⟩ := className_of_methodNamed hn
  have hinitY : kY.init = .initialized := Cond.initialized_spec (findClass_of_methodNamed hn) hkY h3
  have h : At U g.method c below := by rw [hg]; exact X.here
  have hlocals9 : W9 + (maxL + 11) + (headSpec ws rm).room.locals ≤ R.locals := hlocals
  have happ : (headSpec ws rm).appliesLoose y e.platform (U.calling g mk a) = true :=
    Spec.appliesLoose_calling (g := g) h hdg hn hkY hinitY
      (X.room_calling (g := g) (R' := (headSpec ws rm).room) hsize hmY hcY hframes (by rw [hlY]; omega) h4 h5) h1
  obtain ⟨mid, hmid⟩ := h.above
  have hfr : (U.setTop g).frames = (.java g :: mid) ++ below := by rw [State.frames_setTop' g h.top, hmid]; rfl
  obtain ⟨o, s₂, hsteps, -, hend, hq⟩ := Steps.callFree hM p X.admits X.cas X.clock (acts := []) hfr happ hPc trivial
  have hq' : vx_Q Qc XC mc ms free a (U.calling g mk a) o s₂ := hq
  rw [State.frames_setTop' g h.top] at hend
  obtain ⟨g₀, hg0⟩ := Option.isSome_iff_exists.mp h.top
  obtain ⟨r, hr⟩ := State.topJava?_eq_some.mp hg0
  have hr' : (({ U with heap := s₂.heap, slotsUsed := s₂.slotsUsed } : State).setVm s₂.vm).frames = .java g₀ :: r := hr
  rcases hq' with ⟨hqc, L, hfe, hL⟩ | ⟨q, rfl, E, ce, L, hx, hce, hcv, hcl, hW₂, hsm, hL⟩
  · obtain ⟨⟨v, rfl⟩, hW₂, e2, q2, q3, q4, q5, q6⟩ := id hfe
    have e3 : s₂ = ({ (U.calling g mk a).setFrames s₂.frames with heap := s₂.heap, slotsUsed := s₂.slotsUsed } : State).setVm s₂.vm := by
      have : s₂ = ({ s₂ with vm := (U.calling g mk a).vm } : State).setVm s₂.vm := rfl
      rw [e2] at this
      exact this
    obtain ⟨c₂, i₂, len₂, hc₂, hd₂, hf₂⟩ := hend
    have hW' : U.WarmedH s₂.vm := hW₂
    have hcc : c₂ = c := by
      have h1 : s₂.code? g.method = U.code? g.method := by
        rw [State.code?_eq, State.code?_eq, hW'.alike.method?]
      exact Option.some.inj (hc₂.symm.trans (h1.trans h.code))
    subst hcc
    have hlen : len₂ = len := by rw [hdg] at hd₂; cases hd₂; rfl
    subst hlen
    have hs₂ : s₂ = (({ U with heap := s₂.heap, slotsUsed := s₂.slotsUsed } : State).setVm s₂.vm).setTop { g with pc := g.pc + len₂, stack := v.toList ++ g.stack } := by
      refine e3.trans ?_
      rw [hf₂, State.calling_eq h.top, State.setFrames_setFrames, State.setTop_of_frames _ hr', hr]
      rfl
    have hsame : U.sameButNew ({ U with heap := s₂.heap, slotsUsed := s₂.slotsUsed } : State) L mc ms := by
      refine ⟨?_, q2, q3, q4, q5, q6⟩
      obtain ⟨t, ht, -⟩ := State.frames_cons hr
      show ({ U with heap := s₂.heap, slotsUsed := s₂.slotsUsed } : State) = { U.setFrames U.frames with heap := s₂.heap, slotsUsed := s₂.slotsUsed }
      rw [State.setFrames_self ht]
    subst hg
    refine Or.inl ⟨v, ⟨(({ U with heap := s₂.heap, slotsUsed := s₂.slotsUsed } : State).setVm s₂.vm), Ls ++ L, c0 + mc, s0 + ms⟩,
      ⟨X.admits, X.cas, X.clock, X.frames, X.room, X.hears, X.method, X.code, (X.here.setHeapUsed s₂.heap s₂.slotsUsed).setVm hW'.alike, X.tail, State.WarmedH.trans X.warmed hW', X.limits, X.bytes, X.same.trans (hsame.setVm s.vm)⟩,
      ⟨g, mk, s₂, L, rfl, rfl, hqc, rfl, hL, rfl, rfl⟩, ?_⟩
    show Steps p.tables e below _ ((({ U with heap := s₂.heap, slotsUsed := s₂.slotsUsed } : State).setVm s₂.vm).setTop { g with pc := g.pc + len₂, stack := v.toList ++ g.stack })
    rw [← hs₂]
    exact hsteps
  · obtain ⟨e2, q2, q3, q4, q5, q6⟩ := id hsm
    have e3 : s₂ = ({ (U.calling g mk a).setFrames s₂.frames with heap := s₂.heap, slotsUsed := s₂.slotsUsed } : State).setVm s₂.vm := by
      have : s₂ = ({ s₂ with vm := (U.calling g mk a).vm } : State).setVm s₂.vm := rfl
      rw [e2] at this
      exact this
    have hf₂ : s₂.frames = .throwing q :: .java g :: U.frames.tail := hend
    have hW' : U.WarmedH s₂.vm := hW₂
    have hs₂ : s₂ = ((({ U with heap := s₂.heap, slotsUsed := s₂.slotsUsed } : State).setVm s₂.vm).setTop g).pushFrame (.throwing q) := by
      refine e3.trans ?_
      rw [hf₂, State.calling_eq h.top, State.setFrames_setFrames, State.pushFrame, State.frames_setTop _ hr', State.setTop_of_frames _ hr', State.setFrames_setFrames, hr]
      rfl
    have hsame : U.sameButNew ({ U with heap := s₂.heap, slotsUsed := s₂.slotsUsed } : State) L mc ms := by
      refine ⟨?_, q2, q3, q4, q5, q6⟩
      obtain ⟨t, ht, -⟩ := State.frames_cons hr
      show ({ U with heap := s₂.heap, slotsUsed := s₂.slotsUsed } : State) = { U.setFrames U.frames with heap := s₂.heap, slotsUsed := s₂.slotsUsed }
      rw [State.setFrames_self ht]
    subst hg
    refine Or.inr ⟨q, ⟨(({ U with heap := s₂.heap, slotsUsed := s₂.slotsUsed } : State).setVm s₂.vm), Ls ++ L, c0 + mc, s0 + ms⟩,
      ⟨X.admits, X.cas, X.clock, X.frames, X.room, X.hears, X.method, X.code, (X.here.setHeapUsed s₂.heap s₂.slotsUsed).setVm hW'.alike, X.tail, State.WarmedH.trans X.warmed hW', X.limits, X.bytes, X.same.trans (hsame.setVm s.vm)⟩,
      ⟨g, mk, s₂, L, E, ce, rfl, rfl, hx, hce, hcv, hcl, rfl, hL, rfl, rfl⟩, ?_⟩
    show Steps p.tables e below _ (((({ U with heap := s₂.heap, slotsUsed := s₂.slotsUsed } : State).setVm s₂.vm).setTop g).pushFrame (.throwing q))
    rw [← hs₂]
    exact hsteps
end Payer
section Calls
variable {p : Program} {l : Launch} {e : Env} {R : Room} {s : State} {m : MethodId} {args : Array Value} {below : List Frame} {meth : Method} {c : Code} {T : State} {locs : List Loc} {cells slots : Nat}
theorem vx_callV (X : Stand p l e R s m args below meth c T locs cells slots) (hexec : p.tables.exec = Jvm.exec) {own C : String} {index : Nat} {y : MethodName} {bytes : ByteArray} {maxL : Nat} {ret : Option FieldType}
    (hown : s.vm.findClass own = some m.cls) (hlink : (Cond.methodLink own index y).before args s = true) (hinst : (Cond.instanceMethod y).before args s = true) (hsel : (Cond.selects C y y).before args s = true)
    (hcode : (Cond.code y bytes maxL ret).before args s = true) (hy : y.cls ≠ "java/lang/invoke/MethodHandle" ∧ y.cls ≠ "java/lang/invoke/VarHandle")
    {W9 : Nat} {Pre : Pt → Array Value → Prop} {Post : Pt → Array Value → Option Value → Pt → Prop} {PostX : Pt → Array Value → Addr → Pt → Prop} (hK : vx_Back l R p e below s args y 3 W9 Pre Post PostX)
    {b : Addr} {cellB : Cell} (hcell : T.heap[b]? = some cellB) (hobj : cellB.vm.isStatics = false) (hcls : s.vm.findClass C = some cellB.cls)
    {g : JFrame} (hg : g.method = m) (hsize : g.locals.size = c.maxLocals) {argsL rest : List Value} (hlen : ∀ sig, parseMethodDescriptor y.desc = some sig → argsL.length = sig.parameters.length)
    (hstack : g.stack = argsL.reverse ++ .ref b :: rest) (hW : 2 * g.monitorRoom + (rest.map fun v => v.category).sum ≤ W9) (hdg : decode c.code g.pc = .ok (.invokevirtual index, 3))
    (hpre : ∀ vm₁, s.WarmedH vm₁ → Pre ⟨T.setVm vm₁, locs, cells, slots⟩ (Value.ref b :: argsL).toArray) :
    (∃ (v : Option Value) (vm₁ : Vm) (B : Pt), s.WarmedH vm₁ ∧ Stand p l e R s m args below meth c B.U B.locs B.cells B.slots ∧ Post ⟨T.setVm vm₁, locs, cells, slots⟩ (Value.ref b :: argsL).toArray v B ∧
      ∀ target, Steps p.tables e below (B.U.setTop { g with pc := g.pc + 3, stack := v.toList ++ rest }) target → Steps p.tables e below (T.setTop g) target) ∨
    (∃ (q : Addr) (vm₁ : Vm) (B : Pt), s.WarmedH vm₁ ∧ Stand p l e R s m args below meth c B.U B.locs B.cells B.slots ∧ PostX ⟨T.setVm vm₁, locs, cells, slots⟩ (Value.ref b :: argsL).toArray q B ∧
      Steps p.tables e below (T.setTop g) ((B.U.setTop { g with stack := rest }).pushFrame (.throwing q))) := by
  obtain ⟨mk, methM, hnamed, hmethM, hstM, habM⟩ := Cond.instanceMethod_spec hinst
  obtain ⟨methM', cM, hmethM', -, -, -, -, -, -, hsigM⟩ := Cond.code_spec hnamed hcode
  cases hmethM.symm.trans hmethM'
  obtain ⟨c2, r2, m2, q1, q2, q3, q4, kP, hkP, hkPi⟩ := Cond.selects_spec hsel
  cases hcls.symm.trans q1
  cases (State.methodFound?_of_named hnamed hy).symm.trans q2
  cases hnamed.symm.trans q3
  have hselP : selectMethod e.platform s.vm cellB.cls mk = .method mk := by rw [Launch.admits_selectMethod X.admits]; exact q4
  obtain ⟨vm₁, X₁, hstep₁⟩ := X.invokevirtual hexec hown hlink hnamed hmethM hstM hkP hkPi hy (a := b) (cell := cellB) hcell
    (fun z h => by rw [h] at hobj; cases hobj) hselP hmethM habM hkP hkPi (g := g) hg (argsL := argsL) (rest := rest) (hlen _ hsigM) hstack hdg
  rcases hK m meth c ⟨T.setVm vm₁, locs, cells, slots⟩ { g with stack := rest } (.invokevirtual index) mk (Value.ref b :: argsL).toArray X₁ hg hsize hdg hW (X₁.named hnamed) (hpre vm₁ X₁.warmed) with ⟨v, B, X', hpost, hsteps⟩ | ⟨q, B, X', hpost, hsteps⟩
  · exact Or.inl ⟨v, vm₁, B, X₁.warmed, X', hpost, fun target h => hstep₁ _ fun acts => by rw [doInvoke_state]; exact hsteps.trans h⟩
  · exact Or.inr ⟨q, vm₁, B, X₁.warmed, X', hpost, hstep₁ _ fun acts => by rw [doInvoke_state]; exact hsteps⟩
theorem vx_callS (X : Stand p l e R s m args below meth c T locs cells slots) (hexec : p.tables.exec = Jvm.exec) {own : String} {index : Nat} {y : MethodName} {bytes : ByteArray} {maxL : Nat} {ret : Option FieldType}
    (hown : s.vm.findClass own = some m.cls) (hlink : (Cond.methodLink own index y).before args s = true) (hstat : (Cond.static y).before args s = true) (hinit : (Cond.initialized y.cls).before args s = true)
    (hcode : (Cond.code y bytes maxL ret).before args s = true) (hy : y.cls ≠ "java/lang/invoke/MethodHandle" ∧ y.cls ≠ "java/lang/invoke/VarHandle")
    {W9 : Nat} {Pre : Pt → Array Value → Prop} {Post : Pt → Array Value → Option Value → Pt → Prop} {PostX : Pt → Array Value → Addr → Pt → Prop} (hK : vx_Back l R p e below s args y 3 W9 Pre Post PostX)
    {g : JFrame} (hg : g.method = m) (hsize : g.locals.size = c.maxLocals) {argsL rest : List Value} (hlen : ∀ sig, parseMethodDescriptor y.desc = some sig → argsL.length = sig.parameters.length)
    (hstack : g.stack = argsL.reverse ++ rest) (hW : 2 * g.monitorRoom + (rest.map fun v => v.category).sum ≤ W9) (hdg : decode c.code g.pc = .ok (.invokestatic index, 3))
    (hpre : ∀ vm₁, s.WarmedH vm₁ → Pre ⟨T.setVm vm₁, locs, cells, slots⟩ argsL.toArray) :
    (∃ (v : Option Value) (vm₁ : Vm) (B : Pt), s.WarmedH vm₁ ∧ Stand p l e R s m args below meth c B.U B.locs B.cells B.slots ∧ Post ⟨T.setVm vm₁, locs, cells, slots⟩ argsL.toArray v B ∧
      ∀ target, Steps p.tables e below (B.U.setTop { g with pc := g.pc + 3, stack := v.toList ++ rest }) target → Steps p.tables e below (T.setTop g) target) ∨
    (∃ (q : Addr) (vm₁ : Vm) (B : Pt), s.WarmedH vm₁ ∧ Stand p l e R s m args below meth c B.U B.locs B.cells B.slots ∧ PostX ⟨T.setVm vm₁, locs, cells, slots⟩ argsL.toArray q B ∧
      Steps p.tables e below (T.setTop g) ((B.U.setTop { g with stack := rest }).pushFrame (.throwing q))) := by
  obtain ⟨mk, hnamed⟩ := Cond.code_named hcode
  obtain ⟨methM, cM, hmethM, -, -, -, -, -, -, hsigM⟩ := Cond.code_spec hnamed hcode
  have hstatic : methM.isStatic = true := Cond.static_spec hnamed hmethM hstat
  obtain ⟨kP, hkP, -⟩ := className_of_methodNamed hnamed
  have hinitP : kP.init = .initialized := Cond.initialized_spec (findClass_of_methodNamed hnamed) hkP hinit
  obtain ⟨vm₁, X₁, hstep₁⟩ := X.invokestatic hexec hown hlink hnamed hmethM hstatic hkP hinitP hy (g := g) hg (argsL := argsL) (rest := rest) (hlen _ hsigM) hstack hdg
  rcases hK m meth c ⟨T.setVm vm₁, locs, cells, slots⟩ { g with stack := rest } (.invokestatic index) mk argsL.toArray X₁ hg hsize hdg hW (X₁.named hnamed) (hpre vm₁ X₁.warmed) with ⟨v, B, X', hpost, hsteps⟩ | ⟨q, B, X', hpost, hsteps⟩
  · exact Or.inl ⟨v, vm₁, B, X₁.warmed, X', hpost, fun target h => hstep₁ _ fun acts => by rw [doInvoke_state]; exact hsteps.trans h⟩
  · exact Or.inr ⟨q, vm₁, B, X₁.warmed, X', hpost, hstep₁ _ fun acts => by rw [doInvoke_state]; exact hsteps⟩
end Calls
theorem vx_cls {s : State} {T : State} {vm₁ : Vm} {E : String} {k : ClassId} (hW : s.WarmedH vm₁) (h : (T.setVm vm₁).vm.findClass E = some k) : s.vm.findClass E = some k := by
  have h1 : vm₁.findClass E = some k := h
  rw [hW.alike.findClass] at h1
  exact h1
/-- the method's frame g, with q thrown over it -/
def vx_W (p : Program) (l : Launch) (e : Env) (R : Room) (s : State) (m : MethodId) (args : Array Value) (below : List Frame) (meth : Method) (c : Code) (H : Heap) (locs : List Loc) (cells slots : Nat) (Q : State → Prop) (g : JFrame) (q : Addr) : Prop :=
  ∀ T : State, T.heap = H → Stand p l e R s m args below meth c T locs cells slots → ∃ t, Steps p.tables e below ((T.setTop g).pushFrame (.throwing q)) t ∧ Q t
def vx_Run (p : Program) (l : Launch) (e : Env) (R : Room) (s : State) (m : MethodId) (args : Array Value) (below : List Frame) (meth : Method) (c : Code) (H : Heap) (locs : List Loc) (cells slots mc ms : Nat) (g : JFrame) (rest : List Value) (Qa : State → Outcome → State → Prop) (XC : String → State → State → Prop) (free : Addr → Prop) : Prop :=
  ∀ T : State, T.heap = H → Stand p l e R s m args below meth c T locs cells slots →
    (∃ (v : Option Value) (st₀ t T' : State) (L : List Loc), st₀.heap = H ∧ Stand p l e R s m args below meth c T' (locs ++ L) (cells + mc) (slots + ms) ∧ (∀ q ∈ L, free q.base) ∧ T'.heap = t.heap ∧ T'.vm = t.vm ∧ Qa st₀ (.returned v) t ∧
      Goes p e below T g T' { g with pc := g.pc + 3, stack := v.toList ++ rest }) ∨
    (∃ (q : Addr) (st₀ t T' : State) (L : List Loc) (E : String) (ce : Cell), st₀.heap = H ∧ Stand p l e R s m args below meth c T' (locs ++ L) (cells + mc) (slots + ms) ∧ (∀ z ∈ L, free z.base) ∧ T'.heap = t.heap ∧ T'.vm = t.vm ∧ XC E st₀ t ∧ t.heap[q]? = some ce ∧ ce.vm = .none ∧ s.vm.findClass E = some ce.cls ∧
      Steps p.tables e below (T.setTop g) ((T'.setTop { g with stack := rest }).pushFrame (.throwing q)))
def vx_X {S : Type} (px : S → Prop) (B : String → S → State → Prop) (A : Nat → Prop) : String → State → State → Prop := fun E st t => ∃ u : S, px u ∧ B E u t ∧ va_F A st t
section Runs
variable {p : Program} {l : Launch} {e : Env} {R : Room} {s : State} {m : MethodId} {args : Array Value} {below : List Frame} {meth : Method} {c : Code} {H : Heap} {locs : List Loc} {cells slots : Nat}
variable {y : MethodName} {bytes cc : ByteArray} {maxL nL mc ms n index : Nat} {ret : Option FieldType} {ws : List Cond} {rm : Room} {Pc : Array Value → State → Prop} {Qc : Array Value → State → Outcome → State → Prop} {XC : String → State → State → Prop} {free : Addr → Prop} {Ts : List Cond} {own C : String} {b : Addr} {As rest : List Value} {g : JFrame}
theorem vx_callBack (cb : CallB R s args own index y bytes maxL ret ws rm mc ms n) (hM : vx_Met l y ws rm Pc Qc XC mc ms free) (hbl : FrameBlind Pc) : vx_Back l R p e below s args y 3 8 (PreOf R mc ms Pc) (PostOf Qc mc ms free) (vx_Post XC mc ms free) := by
  obtain ⟨hrc, hrs, hfr, hlo, hws, hcw, -, hini, -⟩ := cb
  exact vx_back (bytes := bytes) (maxL := maxL) (ret := ret) hM hbl hrc hrs hfr hlo hws hcw (fun a' U hW => word_at hW (Or.inl (by first | rfl | simp [Cond.onTables, Cond.keeps, Cond.steady])) hini)
theorem vx_runV (S : CallFix p m c cc nL s args Ts own) (hM : vx_Met l y ws rm Pc Qc XC mc ms free) (cw : CallW R s args own C index y bytes maxL ret ws rm mc ms n) (hp : PreV s H C b Pc As)
    (hg : g.method = m) (hn : As.length = n) (hsize : g.locals.size = nL) (hstack : g.stack = As.reverse ++ .ref b :: rest) (hW : 2 * g.monitorRoom + (rest.map fun v => v.category).sum ≤ 8) (hdg : decode cc g.pc = .ok (.invokevirtual index, 3)) (hf : cells + mc ≤ R.cells ∧ slots + ms ≤ R.slots) :
    vx_Run p l e R s m args below meth c H locs cells slots mc ms g rest (Qc (Value.ref b :: As).toArray) XC free := by
  have hK : vx_Back l R p e below s args y 3 8 (PreOf R mc ms Pc) (PostOf Qc mc ms free) (vx_Post XC mc ms free) := vx_callBack cw.1 hM hp.1
  obtain ⟨⟨-, -, -, -, -, -, hcode, -, hy, hlen, hl⟩, hin, hse⟩ := cw
  obtain ⟨hx, hb, hml, ho, -⟩ := S
  obtain ⟨-, ⟨cellB, hcB, hoB, hclB⟩, hPc⟩ := hp
  intro T hT X
  rcases vx_callV X hx (C := C) (bytes := bytes) (maxL := maxL) (ret := ret) ho hl hin hse hcode hy hK (by rw [hT]; exact hcB) hoB hclB hg (hsize.trans hml.symm) (argsL := As) (rest := rest) (fun sig h => hn.trans (hlen sig h)) hstack hW (by rw [hb]; exact hdg)
    (fun vm₁ hW₁ => ⟨hf.1, hf.2, hPc (T.setVm vm₁) hT hW₁⟩) with ⟨v, vm₁, ⟨U', l2, c2, s2⟩, hW₁, X', ⟨g', mk, t, L, e1, e2, hq, h1, hL, h2, h3⟩, st⟩ | ⟨q, vm₁, ⟨U', l2, c2, s2⟩, hW₁, X', ⟨g', mk, t, L, E, ce, e1, e2, hq, hce, hcv, hcl, h1, hL, h2, h3⟩, st⟩
  · dsimp only [Pt.U, Pt.locs, Pt.cells, Pt.slots] at X' e1 e2 h1 h2 h3 st
    subst h1; subst h2; subst h3
    exact Or.inl ⟨v, (T.setVm vm₁).calling g' mk (Value.ref b :: As).toArray, t, U', L, hT, X', hL, e1, e2, hq, st⟩
  · dsimp only [Pt.U, Pt.locs, Pt.cells, Pt.slots] at X' e1 e2 h1 h2 h3 st hcl
    subst h1; subst h2; subst h3
    exact Or.inr ⟨q, (T.setVm vm₁).calling g' mk (Value.ref b :: As).toArray, t, U', L, E, ce, hT, X', hL, e1, e2, hq, hce, hcv, vx_cls hW₁ hcl, st⟩
theorem vx_runS (S : CallFix p m c cc nL s args Ts own) (hM : vx_Met l y ws rm Pc Qc XC mc ms free) (cw : CallB R s args own index y bytes maxL ret ws rm mc ms n ∧ (Cond.static y).before args s = true) (hp : PreS s H Pc As)
    (hg : g.method = m) (hn : As.length = n) (hsize : g.locals.size = nL) (hstack : g.stack = As.reverse ++ rest) (hW : 2 * g.monitorRoom + (rest.map fun v => v.category).sum ≤ 8) (hdg : decode cc g.pc = .ok (.invokestatic index, 3)) (hf : cells + mc ≤ R.cells ∧ slots + ms ≤ R.slots) :
    vx_Run p l e R s m args below meth c H locs cells slots mc ms g rest (Qc As.toArray) XC free := by
  have hK : vx_Back l R p e below s args y 3 8 (PreOf R mc ms Pc) (PostOf Qc mc ms free) (vx_Post XC mc ms free) := vx_callBack cw.1 hM hp.1
  obtain ⟨⟨-, -, -, -, -, -, hcode, hini, hy, hlen, hl⟩, hstt⟩ := cw
  obtain ⟨hx, hb, hml, ho, -⟩ := S
  intro T hT X
  rcases vx_callS X hx (bytes := bytes) (maxL := maxL) (ret := ret) ho hl hstt hini hcode hy hK hg (hsize.trans hml.symm) (argsL := As) (rest := rest) (fun sig h => hn.trans (hlen sig h)) hstack hW (by rw [hb]; exact hdg)
    (fun vm₁ hW₁ => ⟨hf.1, hf.2, hp.2 (T.setVm vm₁) hT hW₁⟩) with ⟨v, vm₁, ⟨U', l2, c2, s2⟩, hW₁, X', ⟨g', mk, t, L, e1, e2, hq, h1, hL, h2, h3⟩, st⟩ | ⟨q, vm₁, ⟨U', l2, c2, s2⟩, hW₁, X', ⟨g', mk, t, L, E, ce, e1, e2, hq, hce, hcv, hcl, h1, hL, h2, h3⟩, st⟩
  · dsimp only [Pt.U, Pt.locs, Pt.cells, Pt.slots] at X' e1 e2 h1 h2 h3 st
    subst h1; subst h2; subst h3
    exact Or.inl ⟨v, (T.setVm vm₁).calling g' mk As.toArray, t, U', L, hT, X', hL, e1, e2, hq, st⟩
  · dsimp only [Pt.U, Pt.locs, Pt.cells, Pt.slots] at X' e1 e2 h1 h2 h3 st hcl
    subst h1; subst h2; subst h3
    exact Or.inr ⟨q, (T.setVm vm₁).calling g' mk As.toArray, t, U', L, E, ce, hT, X', hL, e1, e2, hq, hce, hcv, vx_cls hW₁ hcl, st⟩
end Runs
section Rows
variable {p : Program} {l : Launch} {e : Env} {R : Room} {s : State} {m : MethodId} {args : Array Value} {below : List Frame} {meth : Method} {c : Code} {H : Heap} {locs : List Loc} {cells slots : Nat} {Q : State → Prop}
variable {mc ms : Nat} {free : Addr → Prop} {A0 A1 : Nat → Prop} {H0 : Heap} {a : Array Value} {pc : Nat} {ls : Array Slot} {st0 rest : List Value}
theorem vx_keep {st₀ t T' : State} {L : List Loc} (h0 : st₀.heap = H) (e1 : T'.heap = t.heap) (hS : va_S A0 H0 H locs) (hA : ∀ q, q < H.size → A1 q → A0 q) (hf : ∀ q, free q → A0 q) (hL : ∀ q ∈ L, free q.base) (hF : va_F A1 st₀ t) :
    H.size ≤ T'.heap.size ∧ (∀ q : Nat, q < H.size → ¬ A1 q → T'.heap[q]? = H[q]?) ∧ va_S A0 H0 T'.heap (locs ++ L) := by
  obtain ⟨hz, hk⟩ := hF
  rw [h0] at hz hk
  exact ⟨by rw [e1]; exact hz, fun q h1 h2 => by rw [e1]; exact hk q h1 h2,
    ⟨Nat.le_trans hS.1 (by rw [e1]; exact hz), fun q h1 h2 => by rw [e1, hk q (Nat.lt_of_lt_of_le h1 hS.1) (fun z => h2 (hA q (Nat.lt_of_lt_of_le h1 hS.1) z))]; exact hS.2.1 q h1 h2, fun q hq => by
      rcases List.mem_append.mp hq with h | h
      · exact hS.2.2 q h
      · exact hf _ (hL q h)⟩⟩
theorem vx_calli {S SX : Type} {post : Int32 → S → Prop} {px : SX → Prop} {B : S → State → Prop} {BX : String → SX → State → Prop} {AX : Nat → Prop} (hr : vx_Run p l e R s m args below meth c H locs cells slots mc ms (F0 m pc ls st0) rest (va_Qi post B A1 a) (vx_X px BX AX) free) (hS : va_S A0 H0 H locs) (hA : ∀ q, q < H.size → A1 q → A0 q) (hf : ∀ q, free q → A0 q) (hAX : ∀ q, q < H.size → AX q → A0 q)
    (kx : ∀ (E : String) (ce : Cell) (q9 : Addr) (u : SX) (t : State) (H1 : Heap) (locs1 : List Loc), t.heap = H1 → s.vm.Alike t.vm → px u → BX E u t → H.size ≤ H1.size → (∀ q : Nat, q < H.size → ¬ AX q → H1[q]? = H[q]?) → va_S A0 H0 H1 locs1 → H1[q9]? = some ce → ce.vm = .none → s.vm.findClass E = some ce.cls → vx_W p l e R s m args below meth c H1 locs1 (cells + mc) (slots + ms) Q (F0 m pc ls rest) q9)
    (kk : ∀ (r : Int32) (u : S) (t : State) (H1 : Heap) (locs1 : List Loc), t.heap = H1 → s.vm.Alike t.vm → post r u → B u t → H.size ≤ H1.size → (∀ q : Nat, q < H.size → ¬ A1 q → H1[q]? = H[q]?) → va_S A0 H0 H1 locs1 → W p l e R s m args below meth c H1 locs1 (cells + mc) (slots + ms) Q (F0 m (pc + 3) ls (.int r :: rest))) : W p l e R s m args below meth c H locs cells slots Q (F0 m pc ls st0) := by
  intro T hT X
  rcases hr T hT X with ⟨v, st₀, t, T', L, h0, X', hL, e1, e2, ⟨⟨r, u, hv, hp, hb⟩, hF⟩, st⟩ | ⟨q, st₀, t, T', L, E, ce, h0, X', hL, e1, e2, ⟨u, hp, hb, hF⟩, hce, hcv, hcl, st⟩
  · cases hv
    obtain ⟨k1, k2, k3⟩ := vx_keep h0 e1 hS hA hf hL hF
    obtain ⟨t2, a1, b1⟩ := kk r u t T'.heap (locs ++ L) e1.symm (by rw [← e2]; exact X'.warmed.alike) hp hb k1 k2 k3 T' rfl X'
    exact ⟨t2, st t2 a1, b1⟩
  · obtain ⟨k1, k2, k3⟩ := vx_keep h0 e1 hS hAX hf hL hF
    obtain ⟨t2, a1, b1⟩ := kx E ce q u t T'.heap (locs ++ L) e1.symm (by rw [← e2]; exact X'.warmed.alike) hp hb k1 k2 k3 (by rw [e1]; exact hce) hcv hcl T' rfl X'
    exact ⟨t2, st.trans a1, b1⟩
theorem vx_calll {S SX : Type} {post : Int64 → S → Prop} {px : SX → Prop} {B : S → State → Prop} {BX : String → SX → State → Prop} {AX : Nat → Prop} (hr : vx_Run p l e R s m args below meth c H locs cells slots mc ms (F0 m pc ls st0) rest (va_Ql post B A1 a) (vx_X px BX AX) free) (hS : va_S A0 H0 H locs) (hA : ∀ q, q < H.size → A1 q → A0 q) (hf : ∀ q, free q → A0 q) (hAX : ∀ q, q < H.size → AX q → A0 q)
    (kx : ∀ (E : String) (ce : Cell) (q9 : Addr) (u : SX) (t : State) (H1 : Heap) (locs1 : List Loc), t.heap = H1 → s.vm.Alike t.vm → px u → BX E u t → H.size ≤ H1.size → (∀ q : Nat, q < H.size → ¬ AX q → H1[q]? = H[q]?) → va_S A0 H0 H1 locs1 → H1[q9]? = some ce → ce.vm = .none → s.vm.findClass E = some ce.cls → vx_W p l e R s m args below meth c H1 locs1 (cells + mc) (slots + ms) Q (F0 m pc ls rest) q9)
    (kk : ∀ (r : Int64) (u : S) (t : State) (H1 : Heap) (locs1 : List Loc), t.heap = H1 → s.vm.Alike t.vm → post r u → B u t → H.size ≤ H1.size → (∀ q : Nat, q < H.size → ¬ A1 q → H1[q]? = H[q]?) → va_S A0 H0 H1 locs1 → W p l e R s m args below meth c H1 locs1 (cells + mc) (slots + ms) Q (F0 m (pc + 3) ls (.long r :: rest))) : W p l e R s m args below meth c H locs cells slots Q (F0 m pc ls st0) := by
  intro T hT X
  rcases hr T hT X with ⟨v, st₀, t, T', L, h0, X', hL, e1, e2, ⟨⟨r, u, hv, hp, hb⟩, hF⟩, st⟩ | ⟨q, st₀, t, T', L, E, ce, h0, X', hL, e1, e2, ⟨u, hp, hb, hF⟩, hce, hcv, hcl, st⟩
  · cases hv
    obtain ⟨k1, k2, k3⟩ := vx_keep h0 e1 hS hA hf hL hF
    obtain ⟨t2, a1, b1⟩ := kk r u t T'.heap (locs ++ L) e1.symm (by rw [← e2]; exact X'.warmed.alike) hp hb k1 k2 k3 T' rfl X'
    exact ⟨t2, st t2 a1, b1⟩
  · obtain ⟨k1, k2, k3⟩ := vx_keep h0 e1 hS hAX hf hL hF
    obtain ⟨t2, a1, b1⟩ := kx E ce q u t T'.heap (locs ++ L) e1.symm (by rw [← e2]; exact X'.warmed.alike) hp hb k1 k2 k3 (by rw [e1]; exact hce) hcv hcl T' rfl X'
    exact ⟨t2, st.trans a1, b1⟩
theorem vx_callf {S SX : Type} {post : UInt32 → S → Prop} {px : SX → Prop} {B : S → State → Prop} {BX : String → SX → State → Prop} {AX : Nat → Prop} (hr : vx_Run p l e R s m args below meth c H locs cells slots mc ms (F0 m pc ls st0) rest (va_Qf post B A1 a) (vx_X px BX AX) free) (hS : va_S A0 H0 H locs) (hA : ∀ q, q < H.size → A1 q → A0 q) (hf : ∀ q, free q → A0 q) (hAX : ∀ q, q < H.size → AX q → A0 q)
    (kx : ∀ (E : String) (ce : Cell) (q9 : Addr) (u : SX) (t : State) (H1 : Heap) (locs1 : List Loc), t.heap = H1 → s.vm.Alike t.vm → px u → BX E u t → H.size ≤ H1.size → (∀ q : Nat, q < H.size → ¬ AX q → H1[q]? = H[q]?) → va_S A0 H0 H1 locs1 → H1[q9]? = some ce → ce.vm = .none → s.vm.findClass E = some ce.cls → vx_W p l e R s m args below meth c H1 locs1 (cells + mc) (slots + ms) Q (F0 m pc ls rest) q9)
    (kk : ∀ (r : UInt32) (u : S) (t : State) (H1 : Heap) (locs1 : List Loc), t.heap = H1 → s.vm.Alike t.vm → post r u → B u t → H.size ≤ H1.size → (∀ q : Nat, q < H.size → ¬ A1 q → H1[q]? = H[q]?) → va_S A0 H0 H1 locs1 → W p l e R s m args below meth c H1 locs1 (cells + mc) (slots + ms) Q (F0 m (pc + 3) ls (.float r :: rest))) : W p l e R s m args below meth c H locs cells slots Q (F0 m pc ls st0) := by
  intro T hT X
  rcases hr T hT X with ⟨v, st₀, t, T', L, h0, X', hL, e1, e2, ⟨⟨r, u, hv, hp, hb⟩, hF⟩, st⟩ | ⟨q, st₀, t, T', L, E, ce, h0, X', hL, e1, e2, ⟨u, hp, hb, hF⟩, hce, hcv, hcl, st⟩
  · cases hv
    obtain ⟨k1, k2, k3⟩ := vx_keep h0 e1 hS hA hf hL hF
    obtain ⟨t2, a1, b1⟩ := kk r u t T'.heap (locs ++ L) e1.symm (by rw [← e2]; exact X'.warmed.alike) hp hb k1 k2 k3 T' rfl X'
    exact ⟨t2, st t2 a1, b1⟩
  · obtain ⟨k1, k2, k3⟩ := vx_keep h0 e1 hS hAX hf hL hF
    obtain ⟨t2, a1, b1⟩ := kx E ce q u t T'.heap (locs ++ L) e1.symm (by rw [← e2]; exact X'.warmed.alike) hp hb k1 k2 k3 (by rw [e1]; exact hce) hcv hcl T' rfl X'
    exact ⟨t2, st.trans a1, b1⟩
theorem vx_calld {S SX : Type} {post : UInt64 → S → Prop} {px : SX → Prop} {B : S → State → Prop} {BX : String → SX → State → Prop} {AX : Nat → Prop} (hr : vx_Run p l e R s m args below meth c H locs cells slots mc ms (F0 m pc ls st0) rest (va_Qd post B A1 a) (vx_X px BX AX) free) (hS : va_S A0 H0 H locs) (hA : ∀ q, q < H.size → A1 q → A0 q) (hf : ∀ q, free q → A0 q) (hAX : ∀ q, q < H.size → AX q → A0 q)
    (kx : ∀ (E : String) (ce : Cell) (q9 : Addr) (u : SX) (t : State) (H1 : Heap) (locs1 : List Loc), t.heap = H1 → s.vm.Alike t.vm → px u → BX E u t → H.size ≤ H1.size → (∀ q : Nat, q < H.size → ¬ AX q → H1[q]? = H[q]?) → va_S A0 H0 H1 locs1 → H1[q9]? = some ce → ce.vm = .none → s.vm.findClass E = some ce.cls → vx_W p l e R s m args below meth c H1 locs1 (cells + mc) (slots + ms) Q (F0 m pc ls rest) q9)
    (kk : ∀ (r : UInt64) (u : S) (t : State) (H1 : Heap) (locs1 : List Loc), t.heap = H1 → s.vm.Alike t.vm → post r u → B u t → H.size ≤ H1.size → (∀ q : Nat, q < H.size → ¬ A1 q → H1[q]? = H[q]?) → va_S A0 H0 H1 locs1 → W p l e R s m args below meth c H1 locs1 (cells + mc) (slots + ms) Q (F0 m (pc + 3) ls (.double r :: rest))) : W p l e R s m args below meth c H locs cells slots Q (F0 m pc ls st0) := by
  intro T hT X
  rcases hr T hT X with ⟨v, st₀, t, T', L, h0, X', hL, e1, e2, ⟨⟨r, u, hv, hp, hb⟩, hF⟩, st⟩ | ⟨q, st₀, t, T', L, E, ce, h0, X', hL, e1, e2, ⟨u, hp, hb, hF⟩, hce, hcv, hcl, st⟩
  · cases hv
    obtain ⟨k1, k2, k3⟩ := vx_keep h0 e1 hS hA hf hL hF
    obtain ⟨t2, a1, b1⟩ := kk r u t T'.heap (locs ++ L) e1.symm (by rw [← e2]; exact X'.warmed.alike) hp hb k1 k2 k3 T' rfl X'
    exact ⟨t2, st t2 a1, b1⟩
  · obtain ⟨k1, k2, k3⟩ := vx_keep h0 e1 hS hAX hf hL hF
    obtain ⟨t2, a1, b1⟩ := kx E ce q u t T'.heap (locs ++ L) e1.symm (by rw [← e2]; exact X'.warmed.alike) hp hb k1 k2 k3 (by rw [e1]; exact hce) hcv hcl T' rfl X'
    exact ⟨t2, st.trans a1, b1⟩
theorem vx_callv {S SX : Type} {post : S → Prop} {px : SX → Prop} {B : S → State → Prop} {BX : String → SX → State → Prop} {AX : Nat → Prop} (hr : vx_Run p l e R s m args below meth c H locs cells slots mc ms (F0 m pc ls st0) rest (va_Qv post B A1 a) (vx_X px BX AX) free) (hS : va_S A0 H0 H locs) (hA : ∀ q, q < H.size → A1 q → A0 q) (hf : ∀ q, free q → A0 q) (hAX : ∀ q, q < H.size → AX q → A0 q)
    (kx : ∀ (E : String) (ce : Cell) (q9 : Addr) (u : SX) (t : State) (H1 : Heap) (locs1 : List Loc), t.heap = H1 → s.vm.Alike t.vm → px u → BX E u t → H.size ≤ H1.size → (∀ q : Nat, q < H.size → ¬ AX q → H1[q]? = H[q]?) → va_S A0 H0 H1 locs1 → H1[q9]? = some ce → ce.vm = .none → s.vm.findClass E = some ce.cls → vx_W p l e R s m args below meth c H1 locs1 (cells + mc) (slots + ms) Q (F0 m pc ls rest) q9)
    (kk : ∀ (u : S) (t : State) (H1 : Heap) (locs1 : List Loc), t.heap = H1 → s.vm.Alike t.vm → post u → B u t → H.size ≤ H1.size → (∀ q : Nat, q < H.size → ¬ A1 q → H1[q]? = H[q]?) → va_S A0 H0 H1 locs1 → W p l e R s m args below meth c H1 locs1 (cells + mc) (slots + ms) Q (F0 m (pc + 3) ls (rest))) : W p l e R s m args below meth c H locs cells slots Q (F0 m pc ls st0) := by
  intro T hT X
  rcases hr T hT X with ⟨v, st₀, t, T', L, h0, X', hL, e1, e2, ⟨⟨u, hv, hp, hb⟩, hF⟩, st⟩ | ⟨q, st₀, t, T', L, E, ce, h0, X', hL, e1, e2, ⟨u, hp, hb, hF⟩, hce, hcv, hcl, st⟩
  · cases hv
    obtain ⟨k1, k2, k3⟩ := vx_keep h0 e1 hS hA hf hL hF
    obtain ⟨t2, a1, b1⟩ := kk u t T'.heap (locs ++ L) e1.symm (by rw [← e2]; exact X'.warmed.alike) hp hb k1 k2 k3 T' rfl X'
    exact ⟨t2, st t2 a1, b1⟩
  · obtain ⟨k1, k2, k3⟩ := vx_keep h0 e1 hS hAX hf hL hF
    obtain ⟨t2, a1, b1⟩ := kx E ce q u t T'.heap (locs ++ L) e1.symm (by rw [← e2]; exact X'.warmed.alike) hp hb k1 k2 k3 (by rw [e1]; exact hce) hcv hcl T' rfl X'
    exact ⟨t2, st.trans a1, b1⟩
/-- caught by the row x of this method's table; the rows ahead don't take it -/
theorem vx_catch {own name : String} {E : String} {ce : Cell} {q : Addr} (hown : s.vm.findClass own = some m.cls) (pre : List ExceptionTableEntry) (x : ExceptionTableEntry) (suf : List ExceptionTableEntry) (hsplit : c.exceptionTable.toList = pre ++ x :: suf)
    (hpass : ∀ z ∈ pre, covers z pc = false ∨ (z.catchType ≠ 0 ∧ ∃ nm : String, (Cond.classLink own z.catchType nm).before args s = true ∧ va_Nc E nm s)) (hx : covers x pc = true) (h0 : x.catchType ≠ 0)
    (hlink : (Cond.classLink own x.catchType name).before args s = true) (hcast : (Cond.castable E name).before args s = true) (hcell : H[q]? = some ce) (hv : ce.vm = .none) (hcl : s.vm.findClass E = some ce.cls)
    (kk : W p l e R s m args below meth c H locs cells slots Q (F0 m x.handlerPc ls [.ref q])) : vx_W p l e R s m args below meth c H locs cells slots Q (F0 m pc ls rest) q := by
  intro T hT X
  have hpl : e.platform.magicAccessors = ({} : Platform).magicAccessors := by rw [X.admits.platform]
  obtain ⟨c3, c4, hc3, hc4, hasg⟩ := Cond.castable_spec hcast
  cases Option.some.inj (hc3.symm.trans hcl)
  obtain ⟨c5, hc5, hcl5⟩ := Cond.classLink_spec hown hlink e.platform hpl
  cases Option.some.inj (hc4.symm.trans hc5)
  obtain ⟨vm', X', st⟩ := X.thenCaughtThrough q (g := F0 m pc ls rest) rfl (Steps.refl _) (by rw [hT]; exact hcell) (by rw [hv]; rfl) (by obtain ⟨k9, h9, -⟩ := Vm.findClass_spec hcl; exact ⟨k9, h9⟩) pre x suf hsplit
    (fun z hz => by
      rcases hpass z hz with h | ⟨hz0, nm, hl1, hn1⟩
      · exact Or.inl h
      · obtain ⟨c6, hc6, hcl6⟩ := Cond.classLink_spec hown hl1 e.platform hpl
        obtain ⟨a8, b8, h1, h2, h3⟩ := hn1
        cases Option.some.inj (h1.symm.trans hcl)
        cases Option.some.inj (h2.symm.trans hc6)
        exact Or.inr ⟨hz0, _, hcl6, h3⟩) hx (Or.inr ⟨h0, c4, hcl5, hasg⟩)
  obtain ⟨t, a1, b1⟩ := kk (T.setVm vm') hT X'
  exact ⟨t, st.trans a1, b1⟩
end Rows
section Ends
variable {p : Program} {l : Launch} {e : Env} {R : Room} {s : State} {m : MethodId} {args : Array Value} {below : List Frame} {meth : Method} {c : Code} {H : Heap} {locs : List Loc} {cells slots : Nat} {Q : State → Prop}
variable {mc ms : Nat} {free : Addr → Prop} {A0 A1 : Nat → Prop} {H0 : Heap} {a : Array Value} {ls : Array Slot} {st0 rest : List Value}
variable {Qc : Array Value → State → Outcome → State → Prop} {XC : String → State → State → Prop}
/-- what a body that may throw owes at its end -/
def vx_MQ (below : List Frame) (Qc : Array Value → State → Outcome → State → Prop) (XC : String → State → State → Prop) (a : Array Value) (s : State) (mc ms : Nat) (free : Addr → Prop) : State → Prop := fun t =>
  ∃ o, t.status = .running ∧ Ended t below o ∧ vx_Q Qc XC mc ms free a s o t
theorem vx_ret {g : JFrame} {mc ms : Nat} (k : W p l e R s m args below meth c H locs cells slots (MQ below Qc args s mc ms free) g) : W p l e R s m args below meth c H locs cells slots (vx_MQ below Qc XC args s mc ms free) g := by
  intro T hT X
  obtain ⟨t, a1, o, b1, b2, b3, b4⟩ := k T hT X
  exact ⟨t, a1, o, b1, b2, Or.inl ⟨b3, b4⟩⟩
/-- not caught here: it goes on to the caller -/
theorem vx_widen {g : JFrame} {q : Addr} {k n : Nat} (h1 : cells ≤ k) (h2 : slots ≤ n) (kk : vx_W p l e R s m args below meth c H locs k n Q g q) : vx_W p l e R s m args below meth c H locs cells slots Q g q := fun T hT X => kk T hT (stand_widen X h1 h2)
theorem vx_out {pc : Nat} {E : String} {ce : Cell} {q : Addr} {mc ms : Nat} (hout : ∀ x ∈ c.exceptionTable.toList, covers x pc = false) (hlocks : meth.locks = false) (hcell : H[q]? = some ce) (hv : ce.vm = .none) (hcl : s.vm.findClass E = some ce.cls)
    (hx : ∀ t : State, t.heap = H → s.vm.Alike t.vm → XC E s t) (hf : ∀ z ∈ locs, free z.base) (hc : cells ≤ mc) (hs : slots ≤ ms) :
    vx_W p l e R s m args below meth c H locs cells slots (vx_MQ below Qc XC args s mc ms free) (F0 m pc ls rest) q := by
  intro T hT X
  obtain ⟨st1, hrun, hend, hW, hsm⟩ := X.leaveThrown q (g := F0 m pc ls rest) rfl rfl rfl hout hlocks
  have hcell9 : (T.setFrames (.throwing q :: below)).heap[q]? = some ce := by
    show T.heap[q]? = some ce
    rw [hT]; exact hcell
  exact ⟨_, st1, .threw q, hrun, hend, Or.inr ⟨q, rfl, E, ce, locs, hx _ hT hW.alike, hcell9, hv, hcl, hW, hsm.mono hc hs, hf⟩⟩
theorem vx_frame {U : State} {k n : Nat} (h : s.sameButNew ({ U with vm := s.vm } : State) locs k n) : s.heap.size ≤ U.heap.size ∧ ∀ q : Nat, q < s.heap.size → (∀ z ∈ locs, z.base ≠ q) → U.heap[q]? = s.heap[q]? := by
  obtain ⟨-, h2, -, -, -, h6⟩ := h
  refine ⟨h2, fun q hq hz => ?_⟩
  obtain ⟨c9, e1, e2, e3, e4⟩ := h6 q _ (Array.getElem?_eq_getElem hq)
  have hs : c9.slots = (s.heap[q]).slots := Array.ext_getElem? fun i => e4 i fun hm => hz _ hm rfl
  have h9 : c9 = s.heap[q] := by
    rw [hs] at e2
    exact e2
  have e5 : U.heap[q]? = some c9 := e1
  rw [e5, h9, Array.getElem?_eq_getElem hq]
/-- the words of a throw but the four that speak of the heap -/
def vx_no (w : Cond) : Bool := decide (w ≠ .isRef (.static Bundle.tN "UNASSIGNED_STACK" Bundle.steD)) && decide (w ≠ .isRef (.static Bundle.tN "SUPPRESSED_SENTINEL" Bundle.listD)) && decide (w ≠ .laysStatic Bundle.tN "UNASSIGNED_STACK" Bundle.steD) && decide (w ≠ .laysStatic Bundle.tN "SUPPRESSED_SENTINEL" Bundle.listD)
def vx_at0 (own : String) (ic : Nat) (X : String) (names : List String) : List Cond := (Bundle.ownAtoms0 own ic X names).filter vx_no
def vx_atS (own : String) (ic : Nat) (X : String) (names : List String) : List Cond := (Bundle.ownAtoms own ic X names).filter vx_no
/-- a word that the tables alone decide, or a good one -/
def vx_ot (w : Cond) : Bool := w.onTables || goodWord w
theorem vx_ot_at {args a' : Array Value} {s U : State} {w : Cond} (hW : s.WarmedH U.vm) (hvm : s.vm = U.vm) (hg : vx_ot w = true) (h : w.before args s = true) : w.before a' U = true := by
  simp only [vx_ot, Bool.or_eq_true] at hg
  rcases hg with hg | hg
  · exact va_tabs hg hvm h
  · exact word_at hW (good_of_word hg) h
/-- a list's words: the good ones out of the method's own list, the others by premises of their own -/
theorem vx_hat {args : Array Value} {s : State} {L B : List Cond} (h1 : ∀ w ∈ L.filter goodWord, w.before args s = true) (h2 : ∀ w ∈ L.filter (fun w => !goodWord w), w ∈ B) (h3 : ∀ w ∈ B, w.before args s = true) : ∀ w ∈ L, w.before args s = true := by
  intro w hw
  by_cases g : goodWord w = true
  · exact h1 w (List.mem_filter.mpr ⟨hw, g⟩)
  · refine h3 w (h2 w (List.mem_filter.mpr ⟨hw, ?_⟩))
    show (!goodWord w) = true
    cases hgw : goodWord w
    · rfl
    · exact absurd hgw g
theorem vx_c {args : Array Value} {s : State} {w : Cond} {B : List Cond} (h : w.before args s = true) (t : ∀ w ∈ B, w.before args s = true) : ∀ w' ∈ w :: B, w'.before args s = true := fun w' h' => (List.mem_cons.mp h').elim (fun e => by rw [e]; exact h) (t w')
theorem vx_n {args : Array Value} {s : State} : ∀ w ∈ ([] : List Cond), w.before args s = true := fun _ h => nomatch h
theorem vx_own {args : Array Value} {s : State} {L : List Cond} (h1 : ∀ w ∈ L.filter vx_no, w.before args s = true)
    (hU : (Cond.isRef (.static Bundle.tN "UNASSIGNED_STACK" Bundle.steD)).before args s = true) (hN : (Cond.isRef (.static Bundle.tN "SUPPRESSED_SENTINEL" Bundle.listD)).before args s = true)
    (lU : (Cond.laysStatic Bundle.tN "UNASSIGNED_STACK" Bundle.steD).before args s = true) (lN : (Cond.laysStatic Bundle.tN "SUPPRESSED_SENTINEL" Bundle.listD).before args s = true) : ∀ w ∈ L, w.before args s = true := by
  intro w hw
  by_cases e1 : w = .isRef (.static Bundle.tN "UNASSIGNED_STACK" Bundle.steD)
  · rw [e1]; exact hU
  · by_cases e2 : w = .isRef (.static Bundle.tN "SUPPRESSED_SENTINEL" Bundle.listD)
    · rw [e2]; exact hN
    · by_cases e3 : w = .laysStatic Bundle.tN "UNASSIGNED_STACK" Bundle.steD
      · rw [e3]; exact lU
      · by_cases e4 : w = .laysStatic Bundle.tN "SUPPRESSED_SENTINEL" Bundle.listD
        · rw [e4]; exact lN
        · exact h1 w (List.mem_filter.mpr ⟨hw, by unfold vx_no; rw [decide_eq_true e1, decide_eq_true e2, decide_eq_true e3, decide_eq_true e4]; rfl⟩)
/-- where a static field lies, its class's statics cell in H -/
def vx_L (C n d : String) (A : Nat → Prop) (U : State) (H : Heap) : Prop := ∃ (c : ClassId) (k : Class) (i : Nat) (f : Field) (a : Nat) (cell : Cell), U.vm.findClass C = some c ∧ U.fieldFound? C n d = some (c, k, i, f) ∧ f.isStatic = true ∧ k.statics = some a ∧ H[a]? = some cell ∧ cell.vm.isStatics = true ∧ cell.cls = c ∧ f.slot < cell.slots.size ∧ k.staticTypes[f.slot]? = some f.type ∧ ¬ A a
theorem vx_L.moved {C n d : String} {A : Nat → Prop} {u U : State} {H : Heap} (hvm : u.vm.Alike U.vm) (h : vx_L C n d A u H) : vx_L C n d A U H := by
  obtain ⟨c, k, i, f, a, cell, h1, h2, h3, h4, h5, h6, h7, h8, h9, h10⟩ := h
  obtain ⟨k', hi', he⟩ := State.fieldFound?_setVm hvm h2
  exact ⟨c, k', i, f, a, cell, by rw [hvm.findClass]; exact h1, hi', h3, by rw [he]; exact h4, h5, h6, h7, h8, by rw [he]; exact h9, h10⟩
theorem vx_L.kept {C n d : String} {A : Nat → Prop} {U : State} {H H1 : Heap} (h : vx_L C n d A U H) (hq : ∀ a : Nat, a < H.size → ¬ A a → H1[a]? = H[a]?) : vx_L C n d A U H1 := by
  obtain ⟨c, k, i, f, a, cell, h1, h2, h3, h4, h5, h6, h7, h8, h9, h10⟩ := h
  exact ⟨c, k, i, f, a, cell, h1, h2, h3, h4, by rw [hq a (Array.getElem?_eq_some_iff.mp h5).1 h10]; exact h5, h6, h7, h8, h9, h10⟩
theorem vx_L.narrow {C n d : String} {A B : Nat → Prop} {U : State} {H : Heap} (h : vx_L C n d A U H) (hAB : ∀ q, B q → A q) : vx_L C n d B U H := by
  obtain ⟨c, k, i, f, a, cell, h1, h2, h3, h4, h5, h6, h7, h8, h9, h10⟩ := h
  exact ⟨c, k, i, f, a, cell, h1, h2, h3, h4, h5, h6, h7, h8, h9, fun z => h10 (hAB _ z)⟩
theorem vx_L.word {C n d : String} {A : Nat → Prop} {s : State} {args : Array Value} (h : vx_L C n d A s s.heap) : (Cond.laysStatic C n d).before args s = true := by
  obtain ⟨c, k, i, f, a, cell, h1, h2, h3, h4, h5, h6, h7, h8, h9, -⟩ := h
  show (Cond.laysStatic C n d).holds args s none s [] = true
  exact Cond.laysStatic_of h1 h2 h3 h4 h5 h6 h7 h8 h9
/-- .. and what it holds: null or some reference -/
def vx_Zq (C n d : String) (A : Nat → Prop) (U : State) (H : Heap) : Prop := va_Zq C n d A U H ∧ vx_L C n d A U H
theorem vx_Zq.moved {C n d : String} {A : Nat → Prop} {u U : State} {H : Heap} (hvm : u.vm.Alike U.vm) (h : vx_Zq C n d A u H) : vx_Zq C n d A U H := ⟨va_Zq.moved hvm h.1, vx_L.moved hvm h.2⟩
theorem vx_Zq.kept {C n d : String} {A : Nat → Prop} {U : State} {H H1 : Heap} (h : vx_Zq C n d A U H) (hq : ∀ a : Nat, a < H.size → ¬ A a → H1[a]? = H[a]?) : vx_Zq C n d A U H1 := ⟨va_Zq.kept h.1 hq, vx_L.kept h.2 hq⟩
theorem vx_Zq.narrow {C n d : String} {A B : Nat → Prop} {U : State} {H : Heap} (h : vx_Zq C n d A U H) (hAB : ∀ q, B q → A q) : vx_Zq C n d B U H := ⟨va_Zq.narrow h.1 hAB, vx_L.narrow h.2 hAB⟩
theorem vx_Zqof {args : Array Value} {s : State} {C n d : String} {A : Nat → Prop} (hl : (Cond.laysStatic C n d).before args s = true) (hini : (Cond.initialized C).before args s = true) (h : (Cond.isRef (.static C n d)).before args s = true) (hA : ∀ a : Nat, a < s.heap.size → ¬ A a) : vx_Zq C n d A s s.heap := by
  refine ⟨va_Zqof hl hini h hA, ?_⟩
  obtain ⟨c, k, i, f, a, cell, h1, h2, h3, h4, h5, h6, h7, h8, h9⟩ := Cond.laysStatic_spec hl
  exact ⟨c, k, i, f, a, cell, h1, h2, h3, h4, h5, h6, h7, h8, h9, hA a (Array.getElem?_eq_some_iff.mp h5).1⟩
theorem vx_isRef {C n d : String} {v : Value} {A : Nat → Prop} {s : State} {args : Array Value} (h : va_Z C n d v A s s.heap) (hv : v.isRef = true) : (Cond.isRef (.static C n d)).before args s = true := by
  obtain ⟨cf, kf, fi, f, a, cell, h1, h2, h3, h4, h5, h6, h7, -⟩ := h
  have he : (Term.static C n d).eval args s none [] s = some v := by
    simp [Term.eval, State.fieldNamed?, h1, h2, h4, h5, h6, h7]
  simp only [Cond.before, Cond.holds, Cond.value, he]
  cases v <;> simp_all [Value.isRef]
theorem vx_isRefq {C n d : String} {A : Nat → Prop} {s : State} {args : Array Value} (h : va_Zq C n d A s s.heap) : (Cond.isRef (.static C n d)).before args s = true := by
  rcases h with h | ⟨t, h⟩
  · exact vx_isRef h rfl
  · exact vx_isRef h rfl
/-- the same frame, seen from here: as if the method were called anew in this heap -/
theorem vx_rebase {T : State} (X : Stand p l e R s m args below meth c T locs cells slots) {R' : Room} (hf : R'.frames ≤ R.frames) (hl : R'.locals ≤ R.locals) (hc : cells + R'.cells ≤ R.cells) (hs : slots + R'.slots ≤ R.slots) :
    Stand p l e R' ((T.setVm s.vm).setFrames (.invoking m args :: below)) m args below meth c T [] 0 0 := by
  have htop : (T.setVm s.vm).topJava?.isSome := X.here.top
  have hF : ((T.setVm s.vm).setFrames (.invoking m args :: below)).frames = .invoking m args :: below := State.frames_setFrames _ (State.cur_lt_of_top htop)
  obtain ⟨g₀, hg0⟩ := Option.isSome_iff_exists.mp htop
  obtain ⟨r, hr⟩ := State.topJava?_eq_some.mp hg0
  have hl9 : e.platform.stackLimits (T.setVm s.vm).me = e.platform.stackLimits s.me := X.limits
  have hb9 : (T.setVm s.vm).me.stackBytes = s.me.stackBytes := X.bytes
  refine ⟨X.admits, X.cas, X.clock, hF, ?_, X.hears, X.method, X.code, X.here, X.tail, X.warmed, ?_, ?_, ?_⟩
  · have h := X.room
    have hU : ((T.setVm s.vm).setFrames (.invoking m args :: below)).localsInUse = s.localsInUse := by
      rw [State.localsInUse_invoking hF (meth := meth) (c := c) X.method X.code, State.localsInUse_invoking X.frames X.method X.code]
    simp only [State.hasRoom, Bool.and_eq_true, decide_eq_true_eq] at h ⊢
    obtain ⟨⟨⟨⟨h1, h2, h3, h4, h5, h6⟩, h7⟩, h8⟩, h9⟩ := h
    rw [X.frames, List.length_cons] at h2 h3
    have q1 := X.heapSize
    have q2 := X.used
    simp only [hF, hU, List.length_cons, State.stackLimits_setFrames, State.stackBytes_setFrames, hl9, hb9]
    refine ⟨⟨⟨⟨by omega, by omega, by omega, by omega, by omega, h6⟩, ?_⟩, ?_⟩, X.book⟩
    · show T.heap.size + R'.cells ≤ e.platform.maxCells
      omega
    · show T.slotsUsed + R'.slots ≤ e.platform.maxSlots
      omega
  · rw [State.stackLimits_setFrames]; rfl
  · rw [State.stackBytes_setFrames]; rfl
  · refine ⟨?_, Nat.le_refl _, Nat.le_refl _, ?_, ?_, fun a c9 h9 => ⟨c9, h9, rfl, rfl, fun _ _ => rfl⟩⟩
    · obtain ⟨t, ht, -⟩ := State.frames_cons hr
      show T.setVm s.vm = { ((T.setVm s.vm).setFrames (.invoking m args :: below)).setFrames (T.setVm s.vm).frames with heap := T.heap, slotsUsed := T.slotsUsed }
      rw [State.setFrames_setFrames, State.setFrames_self ht]
      rfl
    · show T.slotsUsed = T.slotsUsed + ((T.heap.toList.drop T.heap.size).map (·.slots.size)).sum
      rw [List.drop_eq_nil_of_le (Nat.le_of_eq Array.length_toList)]
      rfl
    · show ((T.heap.toList.drop T.heap.size).map (·.slots.size)).sum ≤ 0
      rw [List.drop_eq_nil_of_le (Nat.le_of_eq Array.length_toList)]
      exact Nat.le_refl _
/-- 'throw new E()': new; dup; invokespecial; athrow -/
theorem vx_throw0 {cc : ByteArray} {pc : Nat} (hexec : p.tables.exec = Jvm.exec) (hb : c.code = cc) (hl : l.stackTraces = false) {own cls : String} {names : List String} {ik ic mc ms : Nat} {A : Nat → Prop}
    (hown : s.vm.findClass own = some m.cls) (hcls : Bundle.fit cls = true) (hnames : ∀ n ∈ names, Bundle.fit n = true)
    (hk : (Cond.classLink own ik cls).before args s = true) (hini : (Cond.initialized cls).before args s = true) (hat : ∀ w ∈ vx_at0 own ic cls names, w.before args s = true)
    (hgood : ∀ w ∈ Cond.classLink own ik cls :: Cond.initialized cls :: vx_at0 own ic cls names, vx_ot w = true)
    (hU : vx_Zq Bundle.tN "UNASSIGNED_STACK" Bundle.steD A s s.heap) (hN : vx_Zq Bundle.tN "SUPPRESSED_SENTINEL" Bundle.listD A s s.heap) (hS : va_S A s.heap H locs) (hsize : ls.size = c.maxLocals)
    (d0 : decode cc pc = .ok (.new ik, 3)) (d3 : decode cc (pc + 3) = .ok (.dup, 1)) (d4 : decode cc (pc + 4) = .ok (.invokespecial ic, 3)) (d7 : decode cc (pc + 7) = .ok (.athrow, 1))
    (hout : ∀ x ∈ c.exceptionTable.toList, covers x (pc + 7) = false)
    (hRframes : names.length + 3 < R.frames) (hRlocals : (rest.map fun v => v.category).sum + (13 * (names.length + 1) + 42) ≤ R.locals) (hRcells : cells + 1 ≤ R.cells) (hRslots : slots + 6 ≤ R.slots) (hlocks : meth.locks = false)
    (hx : ∀ t : State, s.vm.Alike t.vm → H.size ≤ t.heap.size → (∀ q : Nat, q < H.size → t.heap[q]? = H[q]?) → XC cls s t)
    (hf : ∀ z ∈ locs, free z.base) (hc : cells + 1 ≤ mc) (hs : slots + 6 ≤ ms) :
    W p l e R s m args below meth c H locs cells slots (vx_MQ below Qc XC args s mc ms free) (F0 m pc ls rest) := by
  intro T hT X
  have htr : e.platform.stackTraces = false := (show e.platform.stackTraces = l.stackTraces by rw [X.admits.platform]).trans hl
  have Y := vx_rebase X (R' := { frames := R.frames, locals := R.locals, cells := 1, slots := 6 }) (Nat.le_refl _) (Nat.le_refl _) hRcells hRslots
  obtain ⟨s', hA⟩ : ∃ z, z = (T.setVm s.vm).setFrames (.invoking m args :: below) := ⟨_, rfl⟩
  rw [← hA] at Y
  have hvm : s'.vm = s.vm := by rw [hA]; rfl
  have hhp : s'.heap = H := by rw [hA]; exact hT
  have hW0 : s.WarmedH s'.vm := by rw [hvm]; exact State.WarmedH.refl s
  have hat' : ∀ w ∈ vx_at0 own ic cls names, w.before args s' = true := fun w hw => vx_ot_at hW0 hvm.symm (hgood w (List.mem_cons_of_mem _ (List.mem_cons_of_mem _ hw))) (hat w hw)
  have hk' : (Cond.classLink own ik cls).before args s' = true := vx_ot_at hW0 hvm.symm (hgood _ List.mem_cons_self) hk
  have hini' : (Cond.initialized cls).before args s' = true := vx_ot_at hW0 hvm.symm (hgood _ (List.mem_cons_of_mem _ List.mem_cons_self)) hini
  have hU' : vx_Zq Bundle.tN "UNASSIGNED_STACK" Bundle.steD A s' s'.heap := by rw [hhp]; exact vx_Zq.moved hW0.alike (hU.kept hS.2.1)
  have hN' : vx_Zq Bundle.tN "SUPPRESSED_SENTINEL" Bundle.listD A s' s'.heap := by rw [hhp]; exact vx_Zq.moved hW0.alike (hN.kept hS.2.1)
  have h : ∀ w ∈ Bundle.ownAtoms0 own ic cls names, w.before args s' = true := vx_own hat' (vx_isRefq hU'.1) (vx_isRefq hN'.1) hU'.2.word hN'.2.word
  have hown' : s'.vm.findClass own = some m.cls := by rw [hvm]; exact hown
  have hins : (Cond.instantiable cls 6).before args s' = true := h _ (by simp [Bundle.ownAtoms0])
  obtain ⟨vm₁, cX, kX, hfX, hkX, -, -, X₁, st1⟩ := Y.newCold hexec (own := own) (C := cls) (index := ik) (n := 6) hown' hk' hins hini'
    (g := F0 m pc ls rest) rfl (by rw [hb]; exact d0) (Nat.le_refl _) (Nat.le_refl _)
  generalize hT1 : (T.setVm vm₁).pushCell { cls := cX, slots := kX.instanceTypes.map defaultValue, vm := .none } = T1 at X₁ st1
  have hcat : (Value.ref T.heap.size).category = 1 := rfl
  have hcellA : T1.heap[T.heap.size]? = some (freshCell cX kX) := by rw [← hT1]; exact State.heap_pushCell_size _ _
  have d3' : decode c.code (pc + 3) = .ok (.dup, 1) := by rw [hb]; exact d3
  obtain ⟨U, hsteps, hrun, hend, hW, hsame, ce, hce, hO⟩ := X₁.ctorThrow0 hexec htr (own := own) (cls := cls) (names := names) (ic := ic) hown' hcls hnames h (fun x hx => nomatch hx) hfX hkX hcellA (by rw [hhp, hT]; exact Nat.le_refl _)
    (g := { method := m, pc := pc + 4, locals := ls, stack := .ref T.heap.size :: .ref T.heap.size :: rest, locked := none }) rfl hsize rfl rfl (rest := rest) rfl
    (by rw [hb]; exact d4) (by rw [hb]; exact d7) hout hRframes (by simp only [List.map_cons, List.sum_cons, hcat]; omega) hlocks
  obtain ⟨f1, f2⟩ := vx_frame hsame
  rw [hhp] at f1 f2
  have hWs : s.WarmedH U.vm := State.WarmedH.trans hW0 hW
  have hcl : s.vm.findClass cls = some ce.cls := by
    have h9 := hO.cls
    rw [hvm] at h9
    exact h9
  have hall : s.sameButNew ({ U with vm := s.vm } : State) locs mc ms := by
    subst hA
    obtain ⟨e1, e2⟩ := hsame
    rw [State.setFrames_setFrames] at e1
    have h2 : (T.setVm s.vm).sameButNew ({ U with vm := s.vm } : State) [] (0 + 1) (0 + 6) := ⟨e1, e2⟩
    have h3 := X.same.trans h2
    rw [List.append_nil] at h3
    exact h3.mono hc hs
  refine ⟨U, ?_, .threw T.heap.size, hrun, hend, Or.inr ⟨T.heap.size, rfl, cls, ce, locs, hx U hWs.alike f1 (fun q hq => f2 q hq (fun z hz => nomatch hz)), hce, hO.vm, hcl, hWs, hall, hf⟩⟩
  refine st1 _ ?_
  show Steps p.tables e below (T1.setTop { method := m, pc := pc + 3, locals := ls, stack := .ref T.heap.size :: rest, locked := none }) _
  jvm_step X₁.here [X₁.here.top, hexec, d3', Value.category]
  exact hsteps
/-- 'throw new E("text")': new; dup; ldc; invokespecial; athrow -/
theorem vx_throwS {cc : ByteArray} {pc : Nat} (hexec : p.tables.exec = Jvm.exec) (hb : c.code = cc) (hl : l.stackTraces = false) {own cls text : String} {names : List String} {ik is ic mc ms sa : Nat} {A : Nat → Prop}
    (hown : s.vm.findClass own = some m.cls) (hcls : Bundle.fit cls = true) (hnames : ∀ n ∈ names, Bundle.fit n = true)
    (hk : (Cond.classLink own ik cls).before args s = true) (hini : (Cond.initialized cls).before args s = true) (hstr : vk_R own is text sa s) (hat : ∀ w ∈ vx_atS own ic cls names, w.before args s = true)
    (hgood : ∀ w ∈ Cond.classLink own ik cls :: Cond.initialized cls :: vx_atS own ic cls names, vx_ot w = true)
    (hU : vx_Zq Bundle.tN "UNASSIGNED_STACK" Bundle.steD A s s.heap) (hN : vx_Zq Bundle.tN "SUPPRESSED_SENTINEL" Bundle.listD A s s.heap) (hS : va_S A s.heap H locs) (hsize : ls.size = c.maxLocals)
    (d0 : decode cc pc = .ok (.new ik, 3)) (d3 : decode cc (pc + 3) = .ok (.dup, 1)) (d4 : decode cc (pc + 4) = .ok (.ldc is, 2)) (d6 : decode cc (pc + 6) = .ok (.invokespecial ic, 3)) (d9 : decode cc (pc + 9) = .ok (.athrow, 1))
    (hout : ∀ x ∈ c.exceptionTable.toList, covers x (pc + 9) = false)
    (hRframes : names.length + 3 < R.frames) (hRlocals : (rest.map fun v => v.category).sum + (13 * (names.length + 1) + 43) ≤ R.locals) (hRcells : cells + 1 ≤ R.cells) (hRslots : slots + 6 ≤ R.slots) (hlocks : meth.locks = false)
    (hx : ∀ t : State, s.vm.Alike t.vm → H.size ≤ t.heap.size → (∀ q : Nat, q < H.size → t.heap[q]? = H[q]?) → XC cls s t)
    (hf : ∀ z ∈ locs, free z.base) (hc : cells + 1 ≤ mc) (hs : slots + 6 ≤ ms) :
    W p l e R s m args below meth c H locs cells slots (vx_MQ below Qc XC args s mc ms free) (F0 m pc ls rest) := by
  intro T hT X
  have htr : e.platform.stackTraces = false := (show e.platform.stackTraces = l.stackTraces by rw [X.admits.platform]).trans hl
  have Y := vx_rebase X (R' := { frames := R.frames, locals := R.locals, cells := 1, slots := 6 }) (Nat.le_refl _) (Nat.le_refl _) hRcells hRslots
  obtain ⟨s', hA⟩ : ∃ z, z = (T.setVm s.vm).setFrames (.invoking m args :: below) := ⟨_, rfl⟩
  rw [← hA] at Y
  have hvm : s'.vm = s.vm := by rw [hA]; rfl
  have hhp : s'.heap = H := by rw [hA]; exact hT
  have hW0 : s.WarmedH s'.vm := by rw [hvm]; exact State.WarmedH.refl s
  have hat' : ∀ w ∈ vx_atS own ic cls names, w.before args s' = true := fun w hw => vx_ot_at hW0 hvm.symm (hgood w (List.mem_cons_of_mem _ (List.mem_cons_of_mem _ hw))) (hat w hw)
  have hk' : (Cond.classLink own ik cls).before args s' = true := vx_ot_at hW0 hvm.symm (hgood _ List.mem_cons_self) hk
  have hini' : (Cond.initialized cls).before args s' = true := vx_ot_at hW0 hvm.symm (hgood _ (List.mem_cons_of_mem _ List.mem_cons_self)) hini
  have hU' : vx_Zq Bundle.tN "UNASSIGNED_STACK" Bundle.steD A s' s'.heap := by rw [hhp]; exact vx_Zq.moved hW0.alike (hU.kept hS.2.1)
  have hN' : vx_Zq Bundle.tN "SUPPRESSED_SENTINEL" Bundle.listD A s' s'.heap := by rw [hhp]; exact vx_Zq.moved hW0.alike (hN.kept hS.2.1)
  have h : ∀ w ∈ Bundle.ownAtoms own ic cls names, w.before args s' = true := vx_own hat' (vx_isRefq hU'.1) (vx_isRefq hN'.1) hU'.2.word hN'.2.word
  have hown' : s'.vm.findClass own = some m.cls := by rw [hvm]; exact hown
  have hins : (Cond.instantiable cls 6).before args s' = true := h _ (by simp [Bundle.ownAtoms])
  obtain ⟨vm₁, cX, kX, hfX, hkX, -, -, X₁, st1⟩ := Y.newCold hexec (own := own) (C := cls) (index := ik) (n := 6) hown' hk' hins hini'
    (g := F0 m pc ls rest) rfl (by rw [hb]; exact d0) (Nat.le_refl _) (Nat.le_refl _)
  generalize hT1 : (T.setVm vm₁).pushCell { cls := cX, slots := kX.instanceTypes.map defaultValue, vm := .none } = T1 at X₁ st1
  have hcat : (Value.ref T.heap.size).category = 1 := rfl
  have hcellA : T1.heap[T.heap.size]? = some (freshCell cX kX) := by rw [← hT1]; exact State.heap_pushCell_size _ _
  have d3' : decode c.code (pc + 3) = .ok (.dup, 1) := by rw [hb]; exact d3
  have d4' : decode c.code (pc + 4) = .ok (.ldc is, 2) := by rw [hb]; exact d4
  have hstr' : vk_R own is text sa s' := vk_R.warm hW0 hstr
  obtain ⟨U, hsteps, hrun, hend, hW, hsame, ce, hce, hO⟩ := X₁.ctorThrowS hexec htr (own := own) (cls := cls) (names := names) (ic := ic) hown' hcls hnames h (fun x hx => nomatch hx) hfX hkX hcellA (by rw [hhp, hT]; exact Nat.le_refl _) (msg := .ref sa) rfl
    (g := { method := m, pc := pc + 6, locals := ls, stack := .ref sa :: .ref T.heap.size :: .ref T.heap.size :: rest, locked := none }) rfl hsize rfl rfl (rest := rest) rfl
    (by rw [hb]; exact d6) (by rw [hb]; exact d9) hout hRframes (by simp only [List.map_cons, List.sum_cons, hcat]; omega) hlocks
  obtain ⟨f1, f2⟩ := vx_frame hsame
  rw [hhp] at f1 f2
  have hWs : s.WarmedH U.vm := State.WarmedH.trans hW0 hW
  have hcl : s.vm.findClass cls = some ce.cls := by
    have h9 := hO.cls
    rw [hvm] at h9
    exact h9
  have hall : s.sameButNew ({ U with vm := s.vm } : State) locs mc ms := by
    subst hA
    obtain ⟨e1, e2⟩ := hsame
    rw [State.setFrames_setFrames] at e1
    have h2 : (T.setVm s.vm).sameButNew ({ U with vm := s.vm } : State) [] (0 + 1) (0 + 6) := ⟨e1, e2⟩
    have h3 := X.same.trans h2
    rw [List.append_nil] at h3
    exact h3.mono hc hs
  refine ⟨U, ?_, .threw T.heap.size, hrun, hend, Or.inr ⟨T.heap.size, rfl, cls, ce, locs, hx U hWs.alike f1 (fun q hq => f2 q hq (fun z hz => nomatch hz)), hce, hO.vm, hcl, hWs, hall, hf⟩⟩
  refine st1 _ ?_
  show Steps p.tables e below (T1.setTop { method := m, pc := pc + 3, locals := ls, stack := .ref T.heap.size :: rest, locked := none }) _
  jvm_step X₁.here [X₁.here.top, hexec, d3', Value.category]
  exact X₁.ldcString hexec (own := own) (text := text) (index := is) (a := sa) hown' hstr'.1 hstr'.2
    (g := { method := m, pc := pc + 4, locals := ls, stack := .ref T.heap.size :: .ref T.heap.size :: rest, locked := none }) rfl d4' _ hsteps
/-- 'throw new E("text")', the text by a wide index -/
theorem vx_throwSW {cc : ByteArray} {pc : Nat} (hexec : p.tables.exec = Jvm.exec) (hb : c.code = cc) (hl : l.stackTraces = false) {own cls text : String} {names : List String} {ik is ic mc ms sa : Nat} {A : Nat → Prop}
    (hown : s.vm.findClass own = some m.cls) (hcls : Bundle.fit cls = true) (hnames : ∀ n ∈ names, Bundle.fit n = true)
    (hk : (Cond.classLink own ik cls).before args s = true) (hini : (Cond.initialized cls).before args s = true) (hstr : vk_R own is text sa s) (hat : ∀ w ∈ vx_atS own ic cls names, w.before args s = true)
    (hgood : ∀ w ∈ Cond.classLink own ik cls :: Cond.initialized cls :: vx_atS own ic cls names, vx_ot w = true)
    (hU : vx_Zq Bundle.tN "UNASSIGNED_STACK" Bundle.steD A s s.heap) (hN : vx_Zq Bundle.tN "SUPPRESSED_SENTINEL" Bundle.listD A s s.heap) (hS : va_S A s.heap H locs) (hsize : ls.size = c.maxLocals)
    (d0 : decode cc pc = .ok (.new ik, 3)) (d3 : decode cc (pc + 3) = .ok (.dup, 1)) (d4 : decode cc (pc + 4) = .ok (.ldc_w is, 3)) (d7 : decode cc (pc + 7) = .ok (.invokespecial ic, 3)) (d10 : decode cc (pc + 10) = .ok (.athrow, 1))
    (hout : ∀ x ∈ c.exceptionTable.toList, covers x (pc + 10) = false)
    (hRframes : names.length + 3 < R.frames) (hRlocals : (rest.map fun v => v.category).sum + (13 * (names.length + 1) + 43) ≤ R.locals) (hRcells : cells + 1 ≤ R.cells) (hRslots : slots + 6 ≤ R.slots) (hlocks : meth.locks = false)
    (hx : ∀ t : State, s.vm.Alike t.vm → H.size ≤ t.heap.size → (∀ q : Nat, q < H.size → t.heap[q]? = H[q]?) → XC cls s t)
    (hf : ∀ z ∈ locs, free z.base) (hc : cells + 1 ≤ mc) (hs : slots + 6 ≤ ms) :
    W p l e R s m args below meth c H locs cells slots (vx_MQ below Qc XC args s mc ms free) (F0 m pc ls rest) := by
  intro T hT X
  have htr : e.platform.stackTraces = false := (show e.platform.stackTraces = l.stackTraces by rw [X.admits.platform]).trans hl
  have Y := vx_rebase X (R' := { frames := R.frames, locals := R.locals, cells := 1, slots := 6 }) (Nat.le_refl _) (Nat.le_refl _) hRcells hRslots
  obtain ⟨s', hA⟩ : ∃ z, z = (T.setVm s.vm).setFrames (.invoking m args :: below) := ⟨_, rfl⟩
  rw [← hA] at Y
  have hvm : s'.vm = s.vm := by rw [hA]; rfl
  have hhp : s'.heap = H := by rw [hA]; exact hT
  have hW0 : s.WarmedH s'.vm := by rw [hvm]; exact State.WarmedH.refl s
  have hat' : ∀ w ∈ vx_atS own ic cls names, w.before args s' = true := fun w hw => vx_ot_at hW0 hvm.symm (hgood w (List.mem_cons_of_mem _ (List.mem_cons_of_mem _ hw))) (hat w hw)
  have hk' : (Cond.classLink own ik cls).before args s' = true := vx_ot_at hW0 hvm.symm (hgood _ List.mem_cons_self) hk
  have hini' : (Cond.initialized cls).before args s' = true := vx_ot_at hW0 hvm.symm (hgood _ (List.mem_cons_of_mem _ List.mem_cons_self)) hini
  have hU' : vx_Zq Bundle.tN "UNASSIGNED_STACK" Bundle.steD A s' s'.heap := by rw [hhp]; exact vx_Zq.moved hW0.alike (hU.kept hS.2.1)
  have hN' : vx_Zq Bundle.tN "SUPPRESSED_SENTINEL" Bundle.listD A s' s'.heap := by rw [hhp]; exact vx_Zq.moved hW0.alike (hN.kept hS.2.1)
  have h : ∀ w ∈ Bundle.ownAtoms own ic cls names, w.before args s' = true := vx_own hat' (vx_isRefq hU'.1) (vx_isRefq hN'.1) hU'.2.word hN'.2.word
  have hown' : s'.vm.findClass own = some m.cls := by rw [hvm]; exact hown
  have hins : (Cond.instantiable cls 6).before args s' = true := h _ (by simp [Bundle.ownAtoms])
  obtain ⟨vm₁, cX, kX, hfX, hkX, -, -, X₁, st1⟩ := Y.newCold hexec (own := own) (C := cls) (index := ik) (n := 6) hown' hk' hins hini'
    (g := F0 m pc ls rest) rfl (by rw [hb]; exact d0) (Nat.le_refl _) (Nat.le_refl _)
  generalize hT1 : (T.setVm vm₁).pushCell { cls := cX, slots := kX.instanceTypes.map defaultValue, vm := .none } = T1 at X₁ st1
  have hcat : (Value.ref T.heap.size).category = 1 := rfl
  have hcellA : T1.heap[T.heap.size]? = some (freshCell cX kX) := by rw [← hT1]; exact State.heap_pushCell_size _ _
  have d3' : decode c.code (pc + 3) = .ok (.dup, 1) := by rw [hb]; exact d3
  have d4' : decode c.code (pc + 4) = .ok (.ldc_w is, 3) := by rw [hb]; exact d4
  have hstr' : vk_R own is text sa s' := vk_R.warm hW0 hstr
  obtain ⟨U, hsteps, hrun, hend, hW, hsame, ce, hce, hO⟩ := X₁.ctorThrowS hexec htr (own := own) (cls := cls) (names := names) (ic := ic) hown' hcls hnames h (fun x hx => nomatch hx) hfX hkX hcellA (by rw [hhp, hT]; exact Nat.le_refl _) (msg := .ref sa) rfl
    (g := { method := m, pc := pc + 7, locals := ls, stack := .ref sa :: .ref T.heap.size :: .ref T.heap.size :: rest, locked := none }) rfl hsize rfl rfl (rest := rest) rfl
    (by rw [hb]; exact d7) (by rw [hb]; exact d10) hout hRframes (by simp only [List.map_cons, List.sum_cons, hcat]; omega) hlocks
  obtain ⟨f1, f2⟩ := vx_frame hsame
  rw [hhp] at f1 f2
  have hWs : s.WarmedH U.vm := State.WarmedH.trans hW0 hW
  have hcl : s.vm.findClass cls = some ce.cls := by
    have h9 := hO.cls
    rw [hvm] at h9
    exact h9
  have hall : s.sameButNew ({ U with vm := s.vm } : State) locs mc ms := by
    subst hA
    obtain ⟨e1, e2⟩ := hsame
    rw [State.setFrames_setFrames] at e1
    have h2 : (T.setVm s.vm).sameButNew ({ U with vm := s.vm } : State) [] (0 + 1) (0 + 6) := ⟨e1, e2⟩
    have h3 := X.same.trans h2
    rw [List.append_nil] at h3
    exact h3.mono hc hs
  refine ⟨U, ?_, .threw T.heap.size, hrun, hend, Or.inr ⟨T.heap.size, rfl, cls, ce, locs, hx U hWs.alike f1 (fun q hq => f2 q hq (fun z hz => nomatch hz)), hce, hO.vm, hcl, hWs, hall, hf⟩⟩
  refine st1 _ ?_
  show Steps p.tables e below (T1.setTop { method := m, pc := pc + 3, locals := ls, stack := .ref T.heap.size :: rest, locked := none }) _
  jvm_step X₁.here [X₁.here.top, hexec, d3', Value.category]
  exact X₁.ldcStringW hexec (own := own) (text := text) (index := is) (a := sa) hown' hstr'.1 hstr'.2
    (g := { method := m, pc := pc + 4, locals := ls, stack := .ref T.heap.size :: .ref T.heap.size :: rest, locked := none }) rfl d4' _ hsteps
end Ends
section Bodies
variable {l : Launch}
theorem vx_ofW {y : MethodName} {ws ws' : List Cond} {rm : Room} {Pc : Array Value → State → Prop} {Qc : Array Value → State → Outcome → State → Prop} {XC : String → State → State → Prop} {mc ms : Nat} {free : Addr → Prop} {cc : ByteArray} {maxL : Nat} {ret : Option FieldType}
    (hy : plainName y.cls = true) (hw : ws = Cond.code y cc maxL ret :: ws')
    (body : ∀ p e s m args below meth c s₁, BodyLoose p l y (headSpec ws rm) cc maxL ret e s m args below meth c s₁ → c.maxLocals = maxL → (∀ x ∈ c.exceptionTable.toList, False) → Pc args s →
      W p l e (headSpec ws rm).room s m args below meth c s.heap [] 0 0 (vx_MQ below Qc XC args s mc ms free) (entryFrame m args maxL)) : vx_Met l y ws rm Pc Qc XC mc ms free := by
  refine MetFree.of_bodyS (code := cc) (maxLocals := maxL) (ret := ret) hy ?_ ?_
  · intro args s m h hn
    obtain ⟨meth, c, h1, h2, h3, h4, h5, h6, -, -⟩ := Cond.code_spec hn (atoms_spec (ws := ws) h _ (by rw [hw]; exact List.mem_cons_self))
    exact ⟨meth, c, h1, h2, h3, h4, h5, h6⟩
  · intro p e s m args below meth c s₁ B hml hP _
    have hh0 : s₁.heap = s.heap := by rw [B.state]; rfl
    have ht : ∀ x ∈ c.exceptionTable.toList, False := by
      obtain ⟨meth9, c9, h1, h2, -, -, -, -, h7, -⟩ := Cond.code_spec B.named (atoms_spec (ws := ws) B.pre _ (by rw [hw]; exact List.mem_cons_self))
      cases Option.some.inj (h1.symm.trans B.method)
      cases Option.some.inj (h2.symm.trans (Stand.of_body B).code)
      intro x hx
      rw [Array.isEmpty_iff.mp h7] at hx
      cases hx
    obtain ⟨t, a1, o, b1, b2, b3⟩ := body p e s m args below meth c s₁ B hml ht hP s₁ hh0 (Stand.of_body B)
    exact ⟨t, o, a1, b1, b2, b3⟩
/-- the table of a body with handlers -/
theorem vx_table {p : Program} {x y : MethodName} {S : Spec} {cc bytes : ByteArray} {maxL maxL' : Nat} {ret ret' : Option FieldType} {e : Env} {s s₁ : State} {m : MethodId} {args : Array Value} {below : List Frame} {meth : Method} {c : Code} {hh : List (Nat × Nat × Nat × Nat)}
    (B : BodyLoose p l y S cc maxL ret e s m args below meth c s₁) (h : (Cond.codeWith y bytes maxL' ret' hh).before args s = true) : c.exceptionTable.toList = tableOf hh := by
  obtain ⟨m9, meth9, c9, hn9, h1, h2, -, -, h6, -⟩ := Cond.codeWith_spec h
  cases Option.some.inj (hn9.symm.trans B.named)
  cases Option.some.inj (h1.symm.trans B.method)
  cases Option.some.inj (h2.symm.trans (Stand.of_body B).code)
  rw [← h6, table_eq]
end Bodies
end VXA
/-! ===== END ===== -/
/-! ===== BEGIN a static call of a method with an exception table ===== -/
section VXS
variable {p : Program} {l : Launch} {e : Env} {R : Room} {s : State} {m : MethodId} {args : Array Value} {below : List Frame} {meth : Method} {c : Code} {T : State} {H : Heap} {locs : List Loc} {cells slots : Nat}
abbrev vx_CSW (R : Room) (s : State) (args : Array Value) (own : String) (index : Nat) (y : MethodName) (bytes : ByteArray) (maxL : Nat) (ret : Option FieldType) (hh : List (Nat × Nat × Nat × Nat)) (ws : List Cond) (rm : Room) (mc ms n : Nat) : Prop :=
  (rm.cells = mc ∧ rm.slots = ms ∧ rm.frames + 1 ≤ R.frames ∧ 8 + (maxL + 11) + rm.locals ≤ R.locals ∧ (∀ w ∈ ws, ∀ (a' : Array Value) (U : State), s.WarmedH U.vm → w.before a' U = true) ∧ Cond.codeWith y bytes maxL ret hh ∈ ws) ∧
  (Cond.codeWith y bytes maxL ret hh).before args s = true ∧ (Cond.initialized y.cls).before args s = true ∧ (y.cls ≠ "java/lang/invoke/MethodHandle" ∧ y.cls ≠ "java/lang/invoke/VarHandle") ∧
  (∀ sig, parseMethodDescriptor y.desc = some sig → n = sig.parameters.length) ∧ (Cond.methodLink own index y).before args s = true ∧ (Cond.static y).before args s = true
theorem vx_cwSW {own : String} {index maxL mc ms : Nat} {y : MethodName} {bytes : ByteArray} {ret : Option FieldType} {hh : List (Nat × Nat × Nat × Nat)} {Ts ws ws' : List Cond} {rm : Room} (n : Nat) (ht : ∀ w ∈ Ts, w.before args s = true) (hT : GoodIn Ts (va_wsS own index y ws)) (hw : ws = Cond.codeWith y bytes maxL ret hh :: ws') (hrc : rm.cells = mc) (hrs : rm.slots = ms)
    (hd : y.cls ≠ "java/lang/invoke/MethodHandle" ∧ y.cls ≠ "java/lang/invoke/VarHandle" ∧ (parseMethodDescriptor y.desc).map (fun d => d.parameters.length) = some n) (hR : rm.frames + 1 ≤ R.frames ∧ 8 + (maxL + 11) + rm.locals ≤ R.locals) :
    vx_CSW R s args own index y bytes maxL ret hh ws rm mc ms n := by
  have ok : ∀ w ∈ va_wsS own index y ws, w.before args s = true := fun w h => ht w (hT w h).1
  have hG : GoodIn Ts ws := fun w h => hT w (by unfold va_wsS; exact List.mem_append_right _ h)
  have hc : Cond.codeWith y bytes maxL ret hh ∈ ws := by rw [hw]; exact List.mem_cons_self
  refine ⟨⟨hrc, hrs, hR.1, hR.2, pay_in ht hG, hc⟩, ht _ (hG _ hc).1, ok _ (by simp [va_wsS]), ⟨hd.1, hd.2.1⟩, fun sig h => ?_, ok _ (by simp [va_wsS]), ok _ (by simp [va_wsS])⟩
  have h2 := hd.2.2
  rw [h] at h2
  exact (Option.some.inj h2).symm
theorem vx_callSW (X : Stand p l e R s m args below meth c T locs cells slots) (hexec : p.tables.exec = Jvm.exec) {own : String} {index : Nat} {y : MethodName} {bytes : ByteArray} {maxL : Nat} {ret : Option FieldType} {hh : List (Nat × Nat × Nat × Nat)}
    (hown : s.vm.findClass own = some m.cls) (hlink : (Cond.methodLink own index y).before args s = true) (hstat : (Cond.static y).before args s = true) (hinit : (Cond.initialized y.cls).before args s = true)
    (hcode : (Cond.codeWith y bytes maxL ret hh).before args s = true) (hy : y.cls ≠ "java/lang/invoke/MethodHandle" ∧ y.cls ≠ "java/lang/invoke/VarHandle")
    {W9 : Nat} {Pre : Pt → Array Value → Prop} {Post : Pt → Array Value → Option Value → Pt → Prop} (hK : Back l R p e below s args y 3 W9 Pre Post)
    {g : JFrame} (hg : g.method = m) (hsize : g.locals.size = c.maxLocals) {argsL rest : List Value} (hlen : ∀ sig, parseMethodDescriptor y.desc = some sig → argsL.length = sig.parameters.length)
    (hstack : g.stack = argsL.reverse ++ rest) (hW : 2 * g.monitorRoom + (rest.map fun v => v.category).sum ≤ W9) (hdg : decode c.code g.pc = .ok (.invokestatic index, 3))
    (hpre : ∀ vm₁, s.WarmedH vm₁ → Pre ⟨T.setVm vm₁, locs, cells, slots⟩ argsL.toArray) :
    ∃ (v : Option Value) (vm₁ : Vm) (B : Pt), s.WarmedH vm₁ ∧ Stand p l e R s m args below meth c B.U B.locs B.cells B.slots ∧ Post ⟨T.setVm vm₁, locs, cells, slots⟩ argsL.toArray v B ∧
      ∀ target, Steps p.tables e below (B.U.setTop { g with pc := g.pc + 3, stack := v.toList ++ rest }) target → Steps p.tables e below (T.setTop g) target := by
  obtain ⟨mk, methM, cM, hnamed, hmethM, -, -, -, -, -, -, hsigM⟩ := Cond.codeWith_spec hcode
  have hstatic : methM.isStatic = true := Cond.static_spec hnamed hmethM hstat
  obtain ⟨kP, hkP, -⟩ := className_of_methodNamed hnamed
  have hinitP : kP.init = .initialized := Cond.initialized_spec (findClass_of_methodNamed hnamed) hkP hinit
  obtain ⟨vm₁, X₁, hstep₁⟩ := X.invokestatic hexec hown hlink hnamed hmethM hstatic hkP hinitP hy (g := g) hg (argsL := argsL) (rest := rest) (hlen _ hsigM) hstack hdg
  obtain ⟨v, B, X', hpost, hsteps⟩ := hK m meth c ⟨T.setVm vm₁, locs, cells, slots⟩ { g with stack := rest } (.invokestatic index) mk argsL.toArray X₁ hg hsize hdg hW (X₁.named hnamed) (hpre vm₁ X₁.warmed)
  exact ⟨v, vm₁, B, X₁.warmed, X', hpost, fun target h => hstep₁ _ fun acts => by rw [doInvoke_state]; exact hsteps.trans h⟩
theorem vx_runSW {y : MethodName} {bytes cc : ByteArray} {maxL nL mc ms n index : Nat} {ret : Option FieldType} {hh : List (Nat × Nat × Nat × Nat)} {ws : List Cond} {rm : Room} {Pc : Array Value → State → Prop} {Qc : Array Value → State → Outcome → State → Prop} {free : Addr → Prop} {Ts : List Cond} {own : String} {As rest : List Value} {g : JFrame}
    (S : CallFix p m c cc nL s args Ts own) (hM : Met l y ws rm Pc Qc mc ms free) (cw : vx_CSW R s args own index y bytes maxL ret hh ws rm mc ms n) (hp : PreS s H Pc As)
    (hg : g.method = m) (hn : As.length = n) (hsize : g.locals.size = nL) (hstack : g.stack = As.reverse ++ rest) (hW : 2 * g.monitorRoom + (rest.map fun v => v.category).sum ≤ 8) (hdg : decode cc g.pc = .ok (.invokestatic index, 3)) (hf : cells + mc ≤ R.cells ∧ slots + ms ≤ R.slots) :
    va_Run p l e R s m args below meth c H locs cells slots mc ms g rest (Qc As.toArray) (free) := by
  obtain ⟨⟨hrc, hrs, hfr, hlo, hws, hcw⟩, hcode, hini, hy, hlen, hl, hstt⟩ := cw
  have hK : Back l R p e below s args y 3 8 (PreOf R mc ms Pc) (PostOf Qc mc ms free) := va_backW (hh := hh) (bytes := bytes) (maxL := maxL) (ret := ret) hM hp.1 hrc hrs hfr hlo hws hcw (fun a' U hW => word_at hW (Or.inl (by first | rfl | simp [Cond.onTables, Cond.keeps, Cond.steady])) hini)
  obtain ⟨hx, hb, hml, ho, -⟩ := S
  intro T hT X
  obtain ⟨v, vm₁, ⟨U', l2, c2, s2⟩, hW₁, X', ⟨g', mk, t, L, e1, e2, hq, h1, hL, h2, h3⟩, st⟩ := vx_callSW X hx (hh := hh) (bytes := bytes) (maxL := maxL) (ret := ret) ho hl hstt hini hcode hy hK hg (hsize.trans hml.symm) (argsL := As) (rest := rest) (fun sig h => hn.trans (hlen sig h)) hstack hW (by rw [hb]; exact hdg)
    (fun vm₁ hW₁ => ⟨hf.1, hf.2, hp.2 (T.setVm vm₁) hT hW₁⟩)
  dsimp only [Pt.U, Pt.locs, Pt.cells, Pt.slots] at X' e1 e2 h1 h2 h3 st
  subst h1; subst h2; subst h3
  exact ⟨v, (T.setVm vm₁).calling g' mk As.toArray, t, U', L, hT, X', hL, e1, e2, hq, st⟩
/-- not caught here, past rows that name other classes: it goes on to the caller -/
theorem vx_outP {p : Program} {l : Launch} {e : Env} {R : Room} {s : State} {m : MethodId} {args : Array Value} {below : List Frame} {meth : Method} {c : Code} {H : Heap} {locs : List Loc} {cells slots : Nat} {free : Addr → Prop} {ls : Array Slot} {rest : List Value} {Qc : Array Value → State → Outcome → State → Prop} {XC : String → State → State → Prop}
    {pc : Nat} {own E : String} {ce : Cell} {q : Addr} {mc ms : Nat} (hown : s.vm.findClass own = some m.cls) (hlocks : meth.locks = false)
    (hpass : ∀ z ∈ c.exceptionTable.toList, covers z pc = false ∨ (z.catchType ≠ 0 ∧ ∃ nm : String, (Cond.classLink own z.catchType nm).before args s = true ∧ va_Nc E nm s)) (hcell : H[q]? = some ce) (hv : ce.vm = .none) (hcl : s.vm.findClass E = some ce.cls)
    (hx : ∀ t : State, t.heap = H → s.vm.Alike t.vm → XC E s t) (hf : ∀ z ∈ locs, free z.base) (hc : cells ≤ mc) (hs : slots ≤ ms) :
    vx_W p l e R s m args below meth c H locs cells slots (vx_MQ below Qc XC args s mc ms free) (F0 m pc ls rest) q := by
  intro T hT X
  have hpl : e.platform.magicAccessors = ({} : Platform).magicAccessors := by rw [X.admits.platform]
  obtain ⟨vm', hW', X', st⟩ := X.outThrough hlocks q (g := F0 m pc ls rest) rfl rfl rfl (cell := ce) (by rw [hT]; exact hcell) (by rw [hv]; rfl)
    (by obtain ⟨k9, h9, -⟩ := Vm.findClass_spec hcl; exact ⟨k9, h9⟩) (fun z hz => by
      rcases hpass z hz with h | ⟨hz0, nm, hl1, hn1⟩
      · exact Or.inl h
      · obtain ⟨c6, hc6, hcl6⟩ := Cond.classLink_spec hown hl1 e.platform hpl
        obtain ⟨a8, b8, h1, h2, h3⟩ := hn1
        cases Option.some.inj (h1.symm.trans hcl)
        cases Option.some.inj (h2.symm.trans hc6)
        exact Or.inr ⟨hz0, _, hcl6, h3⟩)
  obtain ⟨g₀, hfr⟩ := X'.frames_eq
  have hcell9 : ((T.setVm vm').setFrames (.throwing q :: below)).heap[q]? = some ce := by
    show T.heap[q]? = some ce
    rw [hT]; exact hcell
  have hend : Ended ((T.setVm vm').setFrames (.throwing q :: below)) below (.threw q) := State.frames_setFrames _ (State.cur_lt_of_frames hfr)
  refine ⟨(T.setVm vm').setFrames (.throwing q :: below), ?_, .threw q, X'.here.running, hend, Or.inr ⟨q, rfl, E, ce, locs, hx _ hT (X'.ends _).1.alike, hcell9, hv, hcl, (X'.ends _).1, (X'.ends _).2.mono hc hs, hf⟩⟩
  rw [X.pushThrowing_eq]
  exact st
/-- a thing of a world lies in the heap -/
theorem vx_lt {D : va_G} {cl : List vw_C} {ws : va_W} {H1 : Heap} (h : va_P D cl ws H1) {k : Nat} {q : Nat × va_E} (hk : ws[k]? = some q) : q.1 < H1.size := (h k q hk).lt
end VXS
/-! ===== END ===== -/
/-! ===== BEGIN methods with a table of their own: called by a name, returning or throwing ===== -/
section VXH
/-! vx_backW, vx_callVX, vx_callSX, vx_callVW, vx_runVW, vx_runVX, vx_runSX, vx_ofWH follow the same proofs as their sisters above (Free/Laws.lean, Shelf42/LK1.lean); vx_outP calls Shelf42/NT130.lean (outThrough). -/
section
variable {l : Launch} {R : Room} {p : Program} {e : Env} {below : List Frame} {s : State} {sargs : Array Value} {y : MethodName} {len W9 : Nat}
theorem vx_backW {ws : List Cond} {rm : Room} {Pc : Array Value → State → Prop} {Qc : Array Value → State → Outcome → State → Prop} {XC : String → State → State → Prop} {mc ms : Nat} {free : Addr → Prop} {bytes : ByteArray} {maxL : Nat} {ret : Option FieldType} {hh : List (Nat × Nat × Nat × Nat)}
    (hM : vx_Met l y ws rm Pc Qc XC mc ms free) (hblind : FrameBlind Pc) (hrc : rm.cells = mc) (hrs : rm.slots = ms)
    (hframes : rm.frames + 1 ≤ R.frames) (hlocals : W9 + (maxL + 11) + rm.locals ≤ R.locals)
    (hws : ∀ w ∈ ws, ∀ a' U, s.WarmedH U.vm → w.before a' U = true) (hcode : Cond.codeWith y bytes maxL ret hh ∈ ws) (hinit : ∀ a' U, s.WarmedH U.vm → (Cond.initialized y.cls).before a' U = true) :
    vx_Back l R p e below s sargs y len W9 (PreOf R mc ms Pc) (PostOf Qc mc ms free) (vx_Post XC mc ms free) := by
  intro m meth c A g ig mk a X hg hsize hdg hW hn hp
  have h1 : (headSpec ws rm).pre.before a A.U = true := atoms_intro fun w hw => hws w hw _ _ X.warmed
  have h2 : (Cond.codeWith y bytes maxL ret hh).before a A.U = true := hws _ hcode _ _ X.warmed
  have h3 : (Cond.initialized y.cls).before a A.U = true := hinit _ _ X.warmed
  have h4 : A.cells + (headSpec ws rm).room.cells ≤ R.cells := by rw [show (headSpec ws rm).room.cells = mc from hrc]; exact hp.1
  have h5 : A.slots + (headSpec ws rm).room.slots ≤ R.slots := by rw [show (headSpec ws rm).room.slots = ms from hrs]; exact hp.2.1
  have hPc : Pc a (A.U.calling g mk a) := hblind _ _ _ _ hp.2.2
  obtain ⟨U, Ls, c0, s0⟩ := A
  dsimp only [Pt.U, Pt.locs, Pt.cells, Pt.slots] at h1 h2 h3 h4 h5 X hn hPc ⊢
  obtain ⟨m9, methY, cY, hn9, hmY, hcY, -, hlY, -⟩ := Cond.codeWith_spec h2
  cases Option.some.inj (hn9.symm.trans hn)
  obtain ⟨kY, hkY, -⟩ := className_of_methodNamed hn
  have hinitY : kY.init = .initialized := Cond.initialized_spec (findClass_of_methodNamed hn) hkY h3
  have h : At U g.method c below := by rw [hg]; exact X.here
  have hlocals9 : W9 + (maxL + 11) + (headSpec ws rm).room.locals ≤ R.locals := hlocals
  have happ : (headSpec ws rm).appliesLoose y e.platform (U.calling g mk a) = true :=
    Spec.appliesLoose_calling (g := g) h hdg hn hkY hinitY
      (X.room_calling (g := g) (R' := (headSpec ws rm).room) hsize hmY hcY hframes (by rw [hlY]; omega) h4 h5) h1
  obtain ⟨mid, hmid⟩ := h.above
  have hfr : (U.setTop g).frames = (.java g :: mid) ++ below := by rw [State.frames_setTop' g h.top, hmid]; rfl
  obtain ⟨o, s₂, hsteps, -, hend, hq⟩ := Steps.callFree hM p X.admits X.cas X.clock (acts := []) hfr happ hPc trivial
  have hq' : vx_Q Qc XC mc ms free a (U.calling g mk a) o s₂ := hq
  rw [State.frames_setTop' g h.top] at hend
  obtain ⟨g₀, hg0⟩ := Option.isSome_iff_exists.mp h.top
  obtain ⟨r, hr⟩ := State.topJava?_eq_some.mp hg0
  have hr' : (({ U with heap := s₂.heap, slotsUsed := s₂.slotsUsed } : State).setVm s₂.vm).frames = .java g₀ :: r := hr
  rcases hq' with ⟨hqc, L, hfe, hL⟩ | ⟨q, rfl, E, ce, L, hx, hce, hcv, hcl, hW₂, hsm, hL⟩
  · obtain ⟨⟨v, rfl⟩, hW₂, e2, q2, q3, q4, q5, q6⟩ := id hfe
    have e3 : s₂ = ({ (U.calling g mk a).setFrames s₂.frames with heap := s₂.heap, slotsUsed := s₂.slotsUsed } : State).setVm s₂.vm := by
      have : s₂ = ({ s₂ with vm := (U.calling g mk a).vm } : State).setVm s₂.vm := rfl
      rw [e2] at this
      exact this
    obtain ⟨c₂, i₂, len₂, hc₂, hd₂, hf₂⟩ := hend
    have hW' : U.WarmedH s₂.vm := hW₂
    have hcc : c₂ = c := by
      have h1 : s₂.code? g.method = U.code? g.method := by
        rw [State.code?_eq, State.code?_eq, hW'.alike.method?]
      exact Option.some.inj (hc₂.symm.trans (h1.trans h.code))
    subst hcc
    have hlen : len₂ = len := by rw [hdg] at hd₂; cases hd₂; rfl
    subst hlen
    have hs₂ : s₂ = (({ U with heap := s₂.heap, slotsUsed := s₂.slotsUsed } : State).setVm s₂.vm).setTop { g with pc := g.pc + len₂, stack := v.toList ++ g.stack } := by
      refine e3.trans ?_
      rw [hf₂, State.calling_eq h.top, State.setFrames_setFrames, State.setTop_of_frames _ hr', hr]
      rfl
    have hsame : U.sameButNew ({ U with heap := s₂.heap, slotsUsed := s₂.slotsUsed } : State) L mc ms := by
      refine ⟨?_, q2, q3, q4, q5, q6⟩
      obtain ⟨t, ht, -⟩ := State.frames_cons hr
      show ({ U with heap := s₂.heap, slotsUsed := s₂.slotsUsed } : State) = { U.setFrames U.frames with heap := s₂.heap, slotsUsed := s₂.slotsUsed }
      rw [State.setFrames_self ht]
    subst hg
    refine Or.inl ⟨v, ⟨(({ U with heap := s₂.heap, slotsUsed := s₂.slotsUsed } : State).setVm s₂.vm), Ls ++ L, c0 + mc, s0 + ms⟩,
      ⟨X.admits, X.cas, X.clock, X.frames, X.room, X.hears, X.method, X.code, (X.here.setHeapUsed s₂.heap s₂.slotsUsed).setVm hW'.alike, X.tail, State.WarmedH.trans X.warmed hW', X.limits, X.bytes, X.same.trans (hsame.setVm s.vm)⟩,
      ⟨g, mk, s₂, L, rfl, rfl, hqc, rfl, hL, rfl, rfl⟩, ?_⟩
    show Steps p.tables e below _ ((({ U with heap := s₂.heap, slotsUsed := s₂.slotsUsed } : State).setVm s₂.vm).setTop { g with pc := g.pc + len₂, stack := v.toList ++ g.stack })
    rw [← hs₂]
    exact hsteps
  · obtain ⟨e2, q2, q3, q4, q5, q6⟩ := id hsm
    have e3 : s₂ = ({ (U.calling g mk a).setFrames s₂.frames with heap := s₂.heap, slotsUsed := s₂.slotsUsed } : State).setVm s₂.vm := by
      have : s₂ = ({ s₂ with vm := (U.calling g mk a).vm } : State).setVm s₂.vm := rfl
      rw [e2] at this
      exact this
    have hf₂ : s₂.frames = .throwing q :: .java g :: U.frames.tail := hend
    have hW' : U.WarmedH s₂.vm := hW₂
    have hs₂ : s₂ = ((({ U with heap := s₂.heap, slotsUsed := s₂.slotsUsed } : State).setVm s₂.vm).setTop g).pushFrame (.throwing q) := by
      refine e3.trans ?_
      rw [hf₂, State.calling_eq h.top, State.setFrames_setFrames, State.pushFrame, State.frames_setTop _ hr', State.setTop_of_frames _ hr', State.setFrames_setFrames, hr]
      rfl
    have hsame : U.sameButNew ({ U with heap := s₂.heap, slotsUsed := s₂.slotsUsed } : State) L mc ms := by
      refine ⟨?_, q2, q3, q4, q5, q6⟩
      obtain ⟨t, ht, -⟩ := State.frames_cons hr
      show ({ U with heap := s₂.heap, slotsUsed := s₂.slotsUsed } : State) = { U.setFrames U.frames with heap := s₂.heap, slotsUsed := s₂.slotsUsed }
      rw [State.setFrames_self ht]
    subst hg
    refine Or.inr ⟨q, ⟨(({ U with heap := s₂.heap, slotsUsed := s₂.slotsUsed } : State).setVm s₂.vm), Ls ++ L, c0 + mc, s0 + ms⟩,
      ⟨X.admits, X.cas, X.clock, X.frames, X.room, X.hears, X.method, X.code, (X.here.setHeapUsed s₂.heap s₂.slotsUsed).setVm hW'.alike, X.tail, State.WarmedH.trans X.warmed hW', X.limits, X.bytes, X.same.trans (hsame.setVm s.vm)⟩,
      ⟨g, mk, s₂, L, E, ce, rfl, rfl, hx, hce, hcv, hcl, rfl, hL, rfl, rfl⟩, ?_⟩
    show Steps p.tables e below _ (((({ U with heap := s₂.heap, slotsUsed := s₂.slotsUsed } : State).setVm s₂.vm).setTop g).pushFrame (.throwing q))
    rw [← hs₂]
    exact hsteps
end
variable {p : Program} {l : Launch} {e : Env} {R : Room} {s : State} {m : MethodId} {args : Array Value} {below : List Frame} {meth : Method} {c : Code} {T : State} {H : Heap} {locs : List Loc} {cells slots : Nat}
theorem vx_callVX (X : Stand p l e R s m args below meth c T locs cells slots) (hexec : p.tables.exec = Jvm.exec) {own C : String} {index : Nat} {y : MethodName} {bytes : ByteArray} {maxL : Nat} {ret : Option FieldType} {hh : List (Nat × Nat × Nat × Nat)}
    (hown : s.vm.findClass own = some m.cls) (hlink : (Cond.methodLink own index y).before args s = true) (hinst : (Cond.instanceMethod y).before args s = true) (hsel : (Cond.selects C y y).before args s = true)
    (hcode : (Cond.codeWith y bytes maxL ret hh).before args s = true) (hy : y.cls ≠ "java/lang/invoke/MethodHandle" ∧ y.cls ≠ "java/lang/invoke/VarHandle")
    {W9 : Nat} {Pre : Pt → Array Value → Prop} {Post : Pt → Array Value → Option Value → Pt → Prop} {PostX : Pt → Array Value → Addr → Pt → Prop} (hK : vx_Back l R p e below s args y 3 W9 Pre Post PostX)
    {b : Addr} {cellB : Cell} (hcell : T.heap[b]? = some cellB) (hobj : cellB.vm.isStatics = false) (hcls : s.vm.findClass C = some cellB.cls)
    {g : JFrame} (hg : g.method = m) (hsize : g.locals.size = c.maxLocals) {argsL rest : List Value} (hlen : ∀ sig, parseMethodDescriptor y.desc = some sig → argsL.length = sig.parameters.length)
    (hstack : g.stack = argsL.reverse ++ .ref b :: rest) (hW : 2 * g.monitorRoom + (rest.map fun v => v.category).sum ≤ W9) (hdg : decode c.code g.pc = .ok (.invokevirtual index, 3))
    (hpre : ∀ vm₁, s.WarmedH vm₁ → Pre ⟨T.setVm vm₁, locs, cells, slots⟩ (Value.ref b :: argsL).toArray) :
    (∃ (v : Option Value) (vm₁ : Vm) (B : Pt), s.WarmedH vm₁ ∧ Stand p l e R s m args below meth c B.U B.locs B.cells B.slots ∧ Post ⟨T.setVm vm₁, locs, cells, slots⟩ (Value.ref b :: argsL).toArray v B ∧
      ∀ target, Steps p.tables e below (B.U.setTop { g with pc := g.pc + 3, stack := v.toList ++ rest }) target → Steps p.tables e below (T.setTop g) target) ∨
    (∃ (q : Addr) (vm₁ : Vm) (B : Pt), s.WarmedH vm₁ ∧ Stand p l e R s m args below meth c B.U B.locs B.cells B.slots ∧ PostX ⟨T.setVm vm₁, locs, cells, slots⟩ (Value.ref b :: argsL).toArray q B ∧
      Steps p.tables e below (T.setTop g) ((B.U.setTop { g with stack := rest }).pushFrame (.throwing q))) := by
  obtain ⟨mk, methM, hnamed, hmethM, hstM, habM⟩ := Cond.instanceMethod_spec hinst
  obtain ⟨m8, methM', cM, hn8, hmethM', -, -, -, -, -, -, hsigM⟩ := Cond.codeWith_spec hcode
  cases Option.some.inj (hn8.symm.trans hnamed)
  cases hmethM.symm.trans hmethM'
  obtain ⟨c2, r2, m2, q1, q2, q3, q4, kP, hkP, hkPi⟩ := Cond.selects_spec hsel
  cases hcls.symm.trans q1
  cases (State.methodFound?_of_named hnamed hy).symm.trans q2
  cases hnamed.symm.trans q3
  have hselP : selectMethod e.platform s.vm cellB.cls mk = .method mk := by rw [Launch.admits_selectMethod X.admits]; exact q4
  obtain ⟨vm₁, X₁, hstep₁⟩ := X.invokevirtual hexec hown hlink hnamed hmethM hstM hkP hkPi hy (a := b) (cell := cellB) hcell
    (fun z h => by rw [h] at hobj; cases hobj) hselP hmethM habM hkP hkPi (g := g) hg (argsL := argsL) (rest := rest) (hlen _ hsigM) hstack hdg
  rcases hK m meth c ⟨T.setVm vm₁, locs, cells, slots⟩ { g with stack := rest } (.invokevirtual index) mk (Value.ref b :: argsL).toArray X₁ hg hsize hdg hW (X₁.named hnamed) (hpre vm₁ X₁.warmed) with ⟨v, B, X', hpost, hsteps⟩ | ⟨q, B, X', hpost, hsteps⟩
  · exact Or.inl ⟨v, vm₁, B, X₁.warmed, X', hpost, fun target h => hstep₁ _ fun acts => by rw [doInvoke_state]; exact hsteps.trans h⟩
  · exact Or.inr ⟨q, vm₁, B, X₁.warmed, X', hpost, hstep₁ _ fun acts => by rw [doInvoke_state]; exact hsteps⟩
theorem vx_callSX (X : Stand p l e R s m args below meth c T locs cells slots) (hexec : p.tables.exec = Jvm.exec) {own : String} {index : Nat} {y : MethodName} {bytes : ByteArray} {maxL : Nat} {ret : Option FieldType} {hh : List (Nat × Nat × Nat × Nat)}
    (hown : s.vm.findClass own = some m.cls) (hlink : (Cond.methodLink own index y).before args s = true) (hstat : (Cond.static y).before args s = true) (hinit : (Cond.initialized y.cls).before args s = true)
    (hcode : (Cond.codeWith y bytes maxL ret hh).before args s = true) (hy : y.cls ≠ "java/lang/invoke/MethodHandle" ∧ y.cls ≠ "java/lang/invoke/VarHandle")
    {W9 : Nat} {Pre : Pt → Array Value → Prop} {Post : Pt → Array Value → Option Value → Pt → Prop} {PostX : Pt → Array Value → Addr → Pt → Prop} (hK : vx_Back l R p e below s args y 3 W9 Pre Post PostX)
    {g : JFrame} (hg : g.method = m) (hsize : g.locals.size = c.maxLocals) {argsL rest : List Value} (hlen : ∀ sig, parseMethodDescriptor y.desc = some sig → argsL.length = sig.parameters.length)
    (hstack : g.stack = argsL.reverse ++ rest) (hW : 2 * g.monitorRoom + (rest.map fun v => v.category).sum ≤ W9) (hdg : decode c.code g.pc = .ok (.invokestatic index, 3))
    (hpre : ∀ vm₁, s.WarmedH vm₁ → Pre ⟨T.setVm vm₁, locs, cells, slots⟩ argsL.toArray) :
    (∃ (v : Option Value) (vm₁ : Vm) (B : Pt), s.WarmedH vm₁ ∧ Stand p l e R s m args below meth c B.U B.locs B.cells B.slots ∧ Post ⟨T.setVm vm₁, locs, cells, slots⟩ argsL.toArray v B ∧
      ∀ target, Steps p.tables e below (B.U.setTop { g with pc := g.pc + 3, stack := v.toList ++ rest }) target → Steps p.tables e below (T.setTop g) target) ∨
    (∃ (q : Addr) (vm₁ : Vm) (B : Pt), s.WarmedH vm₁ ∧ Stand p l e R s m args below meth c B.U B.locs B.cells B.slots ∧ PostX ⟨T.setVm vm₁, locs, cells, slots⟩ argsL.toArray q B ∧
      Steps p.tables e below (T.setTop g) ((B.U.setTop { g with stack := rest }).pushFrame (.throwing q))) := by
  obtain ⟨mk, methM, cM, hnamed, hmethM, -, -, -, -, -, -, hsigM⟩ := Cond.codeWith_spec hcode
  have hstatic : methM.isStatic = true := Cond.static_spec hnamed hmethM hstat
  obtain ⟨kP, hkP, -⟩ := className_of_methodNamed hnamed
  have hinitP : kP.init = .initialized := Cond.initialized_spec (findClass_of_methodNamed hnamed) hkP hinit
  obtain ⟨vm₁, X₁, hstep₁⟩ := X.invokestatic hexec hown hlink hnamed hmethM hstatic hkP hinitP hy (g := g) hg (argsL := argsL) (rest := rest) (hlen _ hsigM) hstack hdg
  rcases hK m meth c ⟨T.setVm vm₁, locs, cells, slots⟩ { g with stack := rest } (.invokestatic index) mk argsL.toArray X₁ hg hsize hdg hW (X₁.named hnamed) (hpre vm₁ X₁.warmed) with ⟨v, B, X', hpost, hsteps⟩ | ⟨q, B, X', hpost, hsteps⟩
  · exact Or.inl ⟨v, vm₁, B, X₁.warmed, X', hpost, fun target h => hstep₁ _ fun acts => by rw [doInvoke_state]; exact hsteps.trans h⟩
  · exact Or.inr ⟨q, vm₁, B, X₁.warmed, X', hpost, hstep₁ _ fun acts => by rw [doInvoke_state]; exact hsteps⟩
theorem vx_callVW (X : Stand p l e R s m args below meth c T locs cells slots) (hexec : p.tables.exec = Jvm.exec) {own C : String} {index : Nat} {y : MethodName} {bytes : ByteArray} {maxL : Nat} {ret : Option FieldType} {hh : List (Nat × Nat × Nat × Nat)}
    (hown : s.vm.findClass own = some m.cls) (hlink : (Cond.methodLink own index y).before args s = true) (hinst : (Cond.instanceMethod y).before args s = true) (hsel : (Cond.selects C y y).before args s = true)
    (hcode : (Cond.codeWith y bytes maxL ret hh).before args s = true) (hy : y.cls ≠ "java/lang/invoke/MethodHandle" ∧ y.cls ≠ "java/lang/invoke/VarHandle")
    {W9 : Nat} {Pre : Pt → Array Value → Prop} {Post : Pt → Array Value → Option Value → Pt → Prop} (hK : Back l R p e below s args y 3 W9 Pre Post)
    {b : Addr} {cellB : Cell} (hcell : T.heap[b]? = some cellB) (hobj : cellB.vm.isStatics = false) (hcls : s.vm.findClass C = some cellB.cls)
    {g : JFrame} (hg : g.method = m) (hsize : g.locals.size = c.maxLocals) {argsL rest : List Value} (hlen : ∀ sig, parseMethodDescriptor y.desc = some sig → argsL.length = sig.parameters.length)
    (hstack : g.stack = argsL.reverse ++ .ref b :: rest) (hW : 2 * g.monitorRoom + (rest.map fun v => v.category).sum ≤ W9) (hdg : decode c.code g.pc = .ok (.invokevirtual index, 3))
    (hpre : ∀ vm₁, s.WarmedH vm₁ → Pre ⟨T.setVm vm₁, locs, cells, slots⟩ (Value.ref b :: argsL).toArray) :
    ∃ (v : Option Value) (vm₁ : Vm) (B : Pt), s.WarmedH vm₁ ∧ Stand p l e R s m args below meth c B.U B.locs B.cells B.slots ∧ Post ⟨T.setVm vm₁, locs, cells, slots⟩ (Value.ref b :: argsL).toArray v B ∧
      ∀ target, Steps p.tables e below (B.U.setTop { g with pc := g.pc + 3, stack := v.toList ++ rest }) target → Steps p.tables e below (T.setTop g) target := by
  obtain ⟨mk, methM, hnamed, hmethM, hstM, habM⟩ := Cond.instanceMethod_spec hinst
  obtain ⟨m8, methM', cM, hn8, hmethM', -, -, -, -, -, -, hsigM⟩ := Cond.codeWith_spec hcode
  cases Option.some.inj (hn8.symm.trans hnamed)
  cases hmethM.symm.trans hmethM'
  obtain ⟨c2, r2, m2, q1, q2, q3, q4, kP, hkP, hkPi⟩ := Cond.selects_spec hsel
  cases hcls.symm.trans q1
  cases (State.methodFound?_of_named hnamed hy).symm.trans q2
  cases hnamed.symm.trans q3
  have hselP : selectMethod e.platform s.vm cellB.cls mk = .method mk := by rw [Launch.admits_selectMethod X.admits]; exact q4
  obtain ⟨vm₁, X₁, hstep₁⟩ := X.invokevirtual hexec hown hlink hnamed hmethM hstM hkP hkPi hy (a := b) (cell := cellB) hcell
    (fun z h => by rw [h] at hobj; cases hobj) hselP hmethM habM hkP hkPi (g := g) hg (argsL := argsL) (rest := rest) (hlen _ hsigM) hstack hdg
  obtain ⟨v, B, X', hpost, hsteps⟩ := hK m meth c ⟨T.setVm vm₁, locs, cells, slots⟩ { g with stack := rest } (.invokevirtual index) mk (Value.ref b :: argsL).toArray X₁ hg hsize hdg hW (X₁.named hnamed) (hpre vm₁ X₁.warmed)
  exact ⟨v, vm₁, B, X₁.warmed, X', hpost, fun target h => hstep₁ _ fun acts => by rw [doInvoke_state]; exact hsteps.trans h⟩
abbrev vx_CVW (R : Room) (s : State) (args : Array Value) (own C : String) (index : Nat) (y : MethodName) (bytes : ByteArray) (maxL : Nat) (ret : Option FieldType) (hh : List (Nat × Nat × Nat × Nat)) (ws : List Cond) (rm : Room) (mc ms n : Nat) : Prop :=
  (rm.cells = mc ∧ rm.slots = ms ∧ rm.frames + 1 ≤ R.frames ∧ 8 + (maxL + 11) + rm.locals ≤ R.locals ∧ (∀ w ∈ ws, ∀ (a' : Array Value) (U : State), s.WarmedH U.vm → w.before a' U = true) ∧ Cond.codeWith y bytes maxL ret hh ∈ ws) ∧
  (Cond.codeWith y bytes maxL ret hh).before args s = true ∧ (Cond.initialized y.cls).before args s = true ∧ (y.cls ≠ "java/lang/invoke/MethodHandle" ∧ y.cls ≠ "java/lang/invoke/VarHandle") ∧
  (∀ sig, parseMethodDescriptor y.desc = some sig → n = sig.parameters.length) ∧ (Cond.methodLink own index y).before args s = true ∧ (Cond.instanceMethod y).before args s = true ∧ (Cond.selects C y y).before args s = true
theorem vx_cwVW {own C : String} {index maxL mc ms : Nat} {y : MethodName} {bytes : ByteArray} {ret : Option FieldType} {hh : List (Nat × Nat × Nat × Nat)} {Ts ws ws' : List Cond} {rm : Room} (n : Nat) (ht : ∀ w ∈ Ts, w.before args s = true) (hT : GoodIn Ts (wsV own index C y ws)) (hw : ws = Cond.codeWith y bytes maxL ret hh :: ws') (hrc : rm.cells = mc) (hrs : rm.slots = ms)
    (hd : y.cls = C ∧ y.cls ≠ "java/lang/invoke/MethodHandle" ∧ y.cls ≠ "java/lang/invoke/VarHandle" ∧ (parseMethodDescriptor y.desc).map (fun d => d.parameters.length) = some n) (hR : rm.frames + 1 ≤ R.frames ∧ 8 + (maxL + 11) + rm.locals ≤ R.locals) :
    vx_CVW R s args own C index y bytes maxL ret hh ws rm mc ms n := by
  obtain ⟨hC, hd⟩ := hd
  subst hC
  have ok : ∀ w ∈ wsV own index y.cls y ws, w.before args s = true := fun w h => ht w (hT w h).1
  have hG : GoodIn Ts ws := fun w h => hT w (by unfold wsV; exact List.mem_append_right _ h)
  have hc : Cond.codeWith y bytes maxL ret hh ∈ ws := by rw [hw]; exact List.mem_cons_self
  refine ⟨⟨hrc, hrs, hR.1, hR.2, pay_in ht hG, hc⟩, ht _ (hG _ hc).1, ok _ (by simp [wsV]), ⟨hd.1, hd.2.1⟩, fun sig h => ?_, ok _ (by simp [wsV]), ok _ (by simp [wsV]), ok _ (by simp [wsV])⟩
  have h2 := hd.2.2
  rw [h] at h2
  exact (Option.some.inj h2).symm
theorem vx_runVW {y : MethodName} {bytes cc : ByteArray} {maxL nL mc ms n index : Nat} {ret : Option FieldType} {hh : List (Nat × Nat × Nat × Nat)} {ws : List Cond} {rm : Room} {Pc : Array Value → State → Prop} {Qc : Array Value → State → Outcome → State → Prop} {free : Addr → Prop} {Ts : List Cond} {own C : String} {b : Addr} {As rest : List Value} {g : JFrame}
    (S : CallFix p m c cc nL s args Ts own) (hM : Met l y ws rm Pc Qc mc ms free) (cw : vx_CVW R s args own C index y bytes maxL ret hh ws rm mc ms n) (hp : PreV s H C b Pc As)
    (hg : g.method = m) (hn : As.length = n) (hsize : g.locals.size = nL) (hstack : g.stack = As.reverse ++ .ref b :: rest) (hW : 2 * g.monitorRoom + (rest.map fun v => v.category).sum ≤ 8) (hdg : decode cc g.pc = .ok (.invokevirtual index, 3)) (hf : cells + mc ≤ R.cells ∧ slots + ms ≤ R.slots) :
    va_Run p l e R s m args below meth c H locs cells slots mc ms g rest (Qc (Value.ref b :: As).toArray) free := by
  obtain ⟨⟨hrc, hrs, hfr, hlo, hws, hcw⟩, hcode, hini, hy, hlen, hl, hin, hse⟩ := cw
  have hK : Back l R p e below s args y 3 8 (PreOf R mc ms Pc) (PostOf Qc mc ms free) := va_backW (hh := hh) (bytes := bytes) (maxL := maxL) (ret := ret) hM hp.1 hrc hrs hfr hlo hws hcw (fun a' U hW => word_at hW (Or.inl (by first | rfl | simp [Cond.onTables, Cond.keeps, Cond.steady])) hini)
  obtain ⟨hx, hb, hml, ho, -⟩ := S
  obtain ⟨-, ⟨cellB, hcB, hoB, hclB⟩, hPc⟩ := hp
  intro T hT X
  obtain ⟨v, vm₁, ⟨U', l2, c2, s2⟩, hW₁, X', ⟨g', mk, t, L, e1, e2, hq, h1, hL, h2, h3⟩, st⟩ := vx_callVW X hx (C := C) (hh := hh) (bytes := bytes) (maxL := maxL) (ret := ret) ho hl hin hse hcode hy hK (by rw [hT]; exact hcB) hoB hclB hg (hsize.trans hml.symm) (argsL := As) (rest := rest) (fun sig h => hn.trans (hlen sig h)) hstack hW (by rw [hb]; exact hdg)
    (fun vm₁ hW₁ => ⟨hf.1, hf.2, hPc (T.setVm vm₁) hT hW₁⟩)
  dsimp only [Pt.U, Pt.locs, Pt.cells, Pt.slots] at X' e1 e2 h1 h2 h3 st
  subst h1; subst h2; subst h3
  exact ⟨v, (T.setVm vm₁).calling g' mk (Value.ref b :: As).toArray, t, U', L, hT, X', hL, e1, e2, hq, st⟩
section
variable {y : MethodName} {bytes cc : ByteArray} {maxL nL mc ms n index : Nat} {ret : Option FieldType} {ws : List Cond} {rm : Room} {Pc : Array Value → State → Prop} {Qc : Array Value → State → Outcome → State → Prop} {XC : String → State → State → Prop} {free : Addr → Prop} {Ts : List Cond} {own C : String} {b : Addr} {As rest : List Value} {g : JFrame}
theorem vx_runVX {hh : List (Nat × Nat × Nat × Nat)} (S : CallFix p m c cc nL s args Ts own) (hM : vx_Met l y ws rm Pc Qc XC mc ms free) (cw : vx_CVW R s args own C index y bytes maxL ret hh ws rm mc ms n) (hp : PreV s H C b Pc As)
    (hg : g.method = m) (hn : As.length = n) (hsize : g.locals.size = nL) (hstack : g.stack = As.reverse ++ .ref b :: rest) (hW : 2 * g.monitorRoom + (rest.map fun v => v.category).sum ≤ 8) (hdg : decode cc g.pc = .ok (.invokevirtual index, 3)) (hf : cells + mc ≤ R.cells ∧ slots + ms ≤ R.slots) :
    vx_Run p l e R s m args below meth c H locs cells slots mc ms g rest (Qc (Value.ref b :: As).toArray) XC free := by
  obtain ⟨⟨hrc, hrs, hfr, hlo, hws, hcw⟩, hcode, hini, hy, hlen, hl, hin, hse⟩ := cw
  have hK : vx_Back l R p e below s args y 3 8 (PreOf R mc ms Pc) (PostOf Qc mc ms free) (vx_Post XC mc ms free) := vx_backW (hh := hh) (bytes := bytes) (maxL := maxL) (ret := ret) hM hp.1 hrc hrs hfr hlo hws hcw (fun a' U hW => word_at hW (Or.inl (by first | rfl | simp [Cond.onTables, Cond.keeps, Cond.steady])) hini)
  obtain ⟨hx, hb, hml, ho, -⟩ := S
  obtain ⟨-, ⟨cellB, hcB, hoB, hclB⟩, hPc⟩ := hp
  intro T hT X
  rcases vx_callVX X hx (C := C) (hh := hh) (bytes := bytes) (maxL := maxL) (ret := ret) ho hl hin hse hcode hy hK (by rw [hT]; exact hcB) hoB hclB hg (hsize.trans hml.symm) (argsL := As) (rest := rest) (fun sig h => hn.trans (hlen sig h)) hstack hW (by rw [hb]; exact hdg)
    (fun vm₁ hW₁ => ⟨hf.1, hf.2, hPc (T.setVm vm₁) hT hW₁⟩) with ⟨v, vm₁, ⟨U', l2, c2, s2⟩, hW₁, X', ⟨g', mk, t, L, e1, e2, hq, h1, hL, h2, h3⟩, st⟩ | ⟨q, vm₁, ⟨U', l2, c2, s2⟩, hW₁, X', ⟨g', mk, t, L, E, ce, e1, e2, hq, hce, hcv, hcl, h1, hL, h2, h3⟩, st⟩
  · dsimp only [Pt.U, Pt.locs, Pt.cells, Pt.slots] at X' e1 e2 h1 h2 h3 st
    subst h1; subst h2; subst h3
    exact Or.inl ⟨v, (T.setVm vm₁).calling g' mk (Value.ref b :: As).toArray, t, U', L, hT, X', hL, e1, e2, hq, st⟩
  · dsimp only [Pt.U, Pt.locs, Pt.cells, Pt.slots] at X' e1 e2 h1 h2 h3 st hcl
    subst h1; subst h2; subst h3
    exact Or.inr ⟨q, (T.setVm vm₁).calling g' mk (Value.ref b :: As).toArray, t, U', L, E, ce, hT, X', hL, e1, e2, hq, hce, hcv, vx_cls hW₁ hcl, st⟩
theorem vx_runSX {hh : List (Nat × Nat × Nat × Nat)} (S : CallFix p m c cc nL s args Ts own) (hM : vx_Met l y ws rm Pc Qc XC mc ms free) (cw : vx_CSW R s args own index y bytes maxL ret hh ws rm mc ms n) (hp : PreS s H Pc As)
    (hg : g.method = m) (hn : As.length = n) (hsize : g.locals.size = nL) (hstack : g.stack = As.reverse ++ rest) (hW : 2 * g.monitorRoom + (rest.map fun v => v.category).sum ≤ 8) (hdg : decode cc g.pc = .ok (.invokestatic index, 3)) (hf : cells + mc ≤ R.cells ∧ slots + ms ≤ R.slots) :
    vx_Run p l e R s m args below meth c H locs cells slots mc ms g rest (Qc As.toArray) XC free := by
  obtain ⟨⟨hrc, hrs, hfr, hlo, hws, hcw⟩, hcode, hini, hy, hlen, hl, hstt⟩ := cw
  have hK : vx_Back l R p e below s args y 3 8 (PreOf R mc ms Pc) (PostOf Qc mc ms free) (vx_Post XC mc ms free) := vx_backW (hh := hh) (bytes := bytes) (maxL := maxL) (ret := ret) hM hp.1 hrc hrs hfr hlo hws hcw (fun a' U hW => word_at hW (Or.inl (by first | rfl | simp [Cond.onTables, Cond.keeps, Cond.steady])) hini)
  obtain ⟨hx, hb, hml, ho, -⟩ := S
  intro T hT X
  rcases vx_callSX X hx (hh := hh) (bytes := bytes) (maxL := maxL) (ret := ret) ho hl hstt hini hcode hy hK hg (hsize.trans hml.symm) (argsL := As) (rest := rest) (fun sig h => hn.trans (hlen sig h)) hstack hW (by rw [hb]; exact hdg)
    (fun vm₁ hW₁ => ⟨hf.1, hf.2, hp.2 (T.setVm vm₁) hT hW₁⟩) with ⟨v, vm₁, ⟨U', l2, c2, s2⟩, hW₁, X', ⟨g', mk, t, L, e1, e2, hq, h1, hL, h2, h3⟩, st⟩ | ⟨q, vm₁, ⟨U', l2, c2, s2⟩, hW₁, X', ⟨g', mk, t, L, E, ce, e1, e2, hq, hce, hcv, hcl, h1, hL, h2, h3⟩, st⟩
  · dsimp only [Pt.U, Pt.locs, Pt.cells, Pt.slots] at X' e1 e2 h1 h2 h3 st
    subst h1; subst h2; subst h3
    exact Or.inl ⟨v, (T.setVm vm₁).calling g' mk As.toArray, t, U', L, hT, X', hL, e1, e2, hq, st⟩
  · dsimp only [Pt.U, Pt.locs, Pt.cells, Pt.slots] at X' e1 e2 h1 h2 h3 st hcl
    subst h1; subst h2; subst h3
    exact Or.inr ⟨q, (T.setVm vm₁).calling g' mk As.toArray, t, U', L, E, ce, hT, X', hL, e1, e2, hq, hce, hcv, vx_cls hW₁ hcl, st⟩
end
end VXH
theorem vx_ofWH {l : Launch} {y : MethodName} {ws ws' : List Cond} {rm : Room} {Pc : Array Value → State → Prop} {Qc : Array Value → State → Outcome → State → Prop} {XC : String → State → State → Prop} {mc ms : Nat} {free : Addr → Prop} {cc : ByteArray} {maxL : Nat} {ret : Option FieldType} {hh : List (Nat × Nat × Nat × Nat)}
    (hy : plainName y.cls = true) (hw : ws = Cond.codeWith y cc maxL ret hh :: ws')
    (body : ∀ p e s m args below meth c s₁, BodyLoose p l y (headSpec ws rm) cc maxL ret e s m args below meth c s₁ → c.maxLocals = maxL → Pc args s →
      W p l e (headSpec ws rm).room s m args below meth c s.heap [] 0 0 (vx_MQ below Qc XC args s mc ms free) (entryFrame m args maxL)) : vx_Met l y ws rm Pc Qc XC mc ms free := by
  refine MetFree.of_bodyS (code := cc) (maxLocals := maxL) (ret := ret) hy ?_ ?_
  · intro args s m h hn
    obtain ⟨m9, meth, c, hn9, h1, h2, h3, h4, -, h5, h6, -⟩ := Cond.codeWith_spec (atoms_spec (ws := ws) h _ (by rw [hw]; exact List.mem_cons_self))
    cases hn.symm.trans hn9
    exact ⟨meth, c, h1, h2, h3, h4, h5, h6⟩
  · intro p e s m args below meth c s₁ B hml hP _
    have hh0 : s₁.heap = s.heap := by rw [B.state]; rfl
    obtain ⟨t, a1, o, b1, b2, b3⟩ := body p e s m args below meth c s₁ B hml hP s₁ hh0 (Stand.of_body B)
    exact ⟨t, o, a1, b1, b2, b3⟩
/-! ===== END ===== -/
end
section
-- ===== PART A: goes FIRST, ahead of the names: the tables' words, and 'selects' of the private methods out of them =====
/-- a private method of a class that the tables say can be made, by its rows of tables_1 -/
def lw_okq (q : MethodName × Nat) : Prop := (q.1.cls ≠ "java/lang/invoke/MethodHandle" ∧ q.1.cls ≠ "java/lang/invoke/VarHandle") ∧ Cond.instantiable q.1.cls q.2 ∈ tables_1 ∧ Cond.privateMethod q.1 ∈ tables_1 ∧ Cond.instanceMethod q.1 ∈ tables_1
theorem lw_p0 : lw_okq (⟨"HeapPress", "pressTogether", "()V"⟩, 8) := ⟨⟨by decide +kernel, by decide +kernel⟩, List.mem_of_getElem? (i := 12) (by decide +kernel), List.mem_of_getElem? (i := 54) (by decide +kernel), List.mem_of_getElem? (i := 55) (by decide +kernel)⟩
theorem lw_p1 : lw_okq (⟨"HeapPress", "findReached", "()V"⟩, 8) := ⟨⟨by decide +kernel, by decide +kernel⟩, List.mem_of_getElem? (i := 12) (by decide +kernel), List.mem_of_getElem? (i := 58) (by decide +kernel), List.mem_of_getElem? (i := 59) (by decide +kernel)⟩
theorem lw_p2 : lw_okq (⟨"HeapPress", "noteReached", "(I)V"⟩, 8) := ⟨⟨by decide +kernel, by decide +kernel⟩, List.mem_of_getElem? (i := 12) (by decide +kernel), List.mem_of_getElem? (i := 62) (by decide +kernel), List.mem_of_getElem? (i := 63) (by decide +kernel)⟩
theorem lw_p3 : lw_okq (⟨"HeapPress", "kindAt", "(I)I"⟩, 8) := ⟨⟨by decide +kernel, by decide +kernel⟩, List.mem_of_getElem? (i := 12) (by decide +kernel), List.mem_of_getElem? (i := 66) (by decide +kernel), List.mem_of_getElem? (i := 67) (by decide +kernel)⟩
theorem lw_p4 : lw_okq (⟨"HeapPress", "noteContents", "(I)V"⟩, 8) := ⟨⟨by decide +kernel, by decide +kernel⟩, List.mem_of_getElem? (i := 12) (by decide +kernel), List.mem_of_getElem? (i := 70) (by decide +kernel), List.mem_of_getElem? (i := 71) (by decide +kernel)⟩
theorem lw_p5 : lw_okq (⟨"HeapPress", "sizeAt", "(I)I"⟩, 8) := ⟨⟨by decide +kernel, by decide +kernel⟩, List.mem_of_getElem? (i := 12) (by decide +kernel), List.mem_of_getElem? (i := 74) (by decide +kernel), List.mem_of_getElem? (i := 75) (by decide +kernel)⟩
theorem lw_p6 : lw_okq (⟨"HeapPress", "lengthAt", "(I)I"⟩, 8) := ⟨⟨by decide +kernel, by decide +kernel⟩, List.mem_of_getElem? (i := 12) (by decide +kernel), List.mem_of_getElem? (i := 78) (by decide +kernel), List.mem_of_getElem? (i := 79) (by decide +kernel)⟩
theorem lw_p7 : lw_okq (⟨"HeapPress", "planNewPlaces", "()I"⟩, 8) := ⟨⟨by decide +kernel, by decide +kernel⟩, List.mem_of_getElem? (i := 12) (by decide +kernel), List.mem_of_getElem? (i := 82) (by decide +kernel), List.mem_of_getElem? (i := 83) (by decide +kernel)⟩
theorem lw_p8 : lw_okq (⟨"HeapPress", "redirectRegisters", "()V"⟩, 8) := ⟨⟨by decide +kernel, by decide +kernel⟩, List.mem_of_getElem? (i := 12) (by decide +kernel), List.mem_of_getElem? (i := 86) (by decide +kernel), List.mem_of_getElem? (i := 87) (by decide +kernel)⟩
theorem lw_p9 : lw_okq (⟨"HeapPress", "newPlaceOf", "(I)I"⟩, 8) := ⟨⟨by decide +kernel, by decide +kernel⟩, List.mem_of_getElem? (i := 12) (by decide +kernel), List.mem_of_getElem? (i := 90) (by decide +kernel), List.mem_of_getElem? (i := 91) (by decide +kernel)⟩
theorem lw_p10 : lw_okq (⟨"HeapPress", "redirectContents", "()V"⟩, 8) := ⟨⟨by decide +kernel, by decide +kernel⟩, List.mem_of_getElem? (i := 12) (by decide +kernel), List.mem_of_getElem? (i := 94) (by decide +kernel), List.mem_of_getElem? (i := 95) (by decide +kernel)⟩
theorem lw_p11 : lw_okq (⟨"HeapPress", "redirectContentsAt", "(I)V"⟩, 8) := ⟨⟨by decide +kernel, by decide +kernel⟩, List.mem_of_getElem? (i := 12) (by decide +kernel), List.mem_of_getElem? (i := 98) (by decide +kernel), List.mem_of_getElem? (i := 99) (by decide +kernel)⟩
theorem lw_p12 : lw_okq (⟨"HeapPress", "moveDown", "()V"⟩, 8) := ⟨⟨by decide +kernel, by decide +kernel⟩, List.mem_of_getElem? (i := 12) (by decide +kernel), List.mem_of_getElem? (i := 102) (by decide +kernel), List.mem_of_getElem? (i := 103) (by decide +kernel)⟩
theorem lw_p13 : lw_okq (⟨"java/lang/Throwable", "fillInStackTrace", "(I)Ljava/lang/Throwable;"⟩, 6) := ⟨⟨by decide +kernel, by decide +kernel⟩, List.mem_of_getElem? (i := 166) (by decide +kernel), List.mem_of_getElem? (i := 164) (by decide +kernel), List.mem_of_getElem? (i := 165) (by decide +kernel)⟩
theorem lw_p14 : lw_okq (⟨"HeapPress", "takeCells", "(II)I"⟩, 8) := ⟨⟨by decide +kernel, by decide +kernel⟩, List.mem_of_getElem? (i := 12) (by decide +kernel), List.mem_of_getElem? (i := 196) (by decide +kernel), List.mem_of_getElem? (i := 197) (by decide +kernel)⟩
theorem lw_p15 : lw_okq (⟨"HeapPress", "hasRoom", "(I)Z"⟩, 8) := ⟨⟨by decide +kernel, by decide +kernel⟩, List.mem_of_getElem? (i := 12) (by decide +kernel), List.mem_of_getElem? (i := 200) (by decide +kernel), List.mem_of_getElem? (i := 201) (by decide +kernel)⟩
def lw_privs_1 : List (MethodName × Nat) := [(⟨"HeapPress", "pressTogether", "()V"⟩, 8), (⟨"HeapPress", "findReached", "()V"⟩, 8), (⟨"HeapPress", "noteReached", "(I)V"⟩, 8), (⟨"HeapPress", "kindAt", "(I)I"⟩, 8), (⟨"HeapPress", "noteContents", "(I)V"⟩, 8), (⟨"HeapPress", "sizeAt", "(I)I"⟩, 8), (⟨"HeapPress", "lengthAt", "(I)I"⟩, 8), (⟨"HeapPress", "planNewPlaces", "()I"⟩, 8), (⟨"HeapPress", "redirectRegisters", "()V"⟩, 8), (⟨"HeapPress", "newPlaceOf", "(I)I"⟩, 8), (⟨"HeapPress", "redirectContents", "()V"⟩, 8), (⟨"HeapPress", "redirectContentsAt", "(I)V"⟩, 8), (⟨"HeapPress", "moveDown", "()V"⟩, 8), (⟨"java/lang/Throwable", "fillInStackTrace", "(I)Ljava/lang/Throwable;"⟩, 6), (⟨"HeapPress", "takeCells", "(II)I"⟩, 8), (⟨"HeapPress", "hasRoom", "(I)Z"⟩, 8)]
theorem lw_r1 : ∀ q ∈ lw_privs_1, lw_okq q := List.forall_mem_cons.mpr ⟨lw_p0, List.forall_mem_cons.mpr ⟨lw_p1, List.forall_mem_cons.mpr ⟨lw_p2, List.forall_mem_cons.mpr ⟨lw_p3, List.forall_mem_cons.mpr ⟨lw_p4, List.forall_mem_cons.mpr ⟨lw_p5, List.forall_mem_cons.mpr ⟨lw_p6, List.forall_mem_cons.mpr ⟨lw_p7, List.forall_mem_cons.mpr ⟨lw_p8, List.forall_mem_cons.mpr ⟨lw_p9, List.forall_mem_cons.mpr ⟨lw_p10, List.forall_mem_cons.mpr ⟨lw_p11, List.forall_mem_cons.mpr ⟨lw_p12, List.forall_mem_cons.mpr ⟨lw_p13, List.forall_mem_cons.mpr ⟨lw_p14, List.forall_mem_cons.mpr ⟨lw_p15, fun _ h => absurd h List.not_mem_nil⟩⟩⟩⟩⟩⟩⟩⟩⟩⟩⟩⟩⟩⟩⟩⟩
theorem lw_p16 : lw_okq (⟨"HeapPress", "numberCell", "(II)I"⟩, 8) := ⟨⟨by decide +kernel, by decide +kernel⟩, List.mem_of_getElem? (i := 12) (by decide +kernel), List.mem_of_getElem? (i := 287) (by decide +kernel), List.mem_of_getElem? (i := 288) (by decide +kernel)⟩
theorem lw_p17 : lw_okq (⟨"HeapPressModel", "reach", "(I)V"⟩, 12) := ⟨⟨by decide +kernel, by decide +kernel⟩, List.mem_of_getElem? (i := 305) (by decide +kernel), List.mem_of_getElem? (i := 357) (by decide +kernel), List.mem_of_getElem? (i := 358) (by decide +kernel)⟩
theorem lw_p18 : lw_okq (⟨"HeapPressModel", "isRegister", "(I)Z"⟩, 12) := ⟨⟨by decide +kernel, by decide +kernel⟩, List.mem_of_getElem? (i := 305) (by decide +kernel), List.mem_of_getElem? (i := 365) (by decide +kernel), List.mem_of_getElem? (i := 366) (by decide +kernel)⟩
theorem lw_p19 : lw_okq (⟨"HeapPressModel", "made", "(II)I"⟩, 12) := ⟨⟨by decide +kernel, by decide +kernel⟩, List.mem_of_getElem? (i := 305) (by decide +kernel), List.mem_of_getElem? (i := 369) (by decide +kernel), List.mem_of_getElem? (i := 370) (by decide +kernel)⟩
theorem lw_p20 : lw_okq (⟨"HeapPressModel", "cells", "()I"⟩, 12) := ⟨⟨by decide +kernel, by decide +kernel⟩, List.mem_of_getElem? (i := 305) (by decide +kernel), List.mem_of_getElem? (i := 373) (by decide +kernel), List.mem_of_getElem? (i := 374) (by decide +kernel)⟩
theorem lw_p21 : lw_okq (⟨"HeapPressModel", "cellsOf", "(I)I"⟩, 12) := ⟨⟨by decide +kernel, by decide +kernel⟩, List.mem_of_getElem? (i := 305) (by decide +kernel), List.mem_of_getElem? (i := 377) (by decide +kernel), List.mem_of_getElem? (i := 378) (by decide +kernel)⟩
theorem lw_p22 : lw_okq (⟨"HeapPressModel", "placeOf", "(I)I"⟩, 12) := ⟨⟨by decide +kernel, by decide +kernel⟩, List.mem_of_getElem? (i := 305) (by decide +kernel), List.mem_of_getElem? (i := 382) (by decide +kernel), List.mem_of_getElem? (i := 383) (by decide +kernel)⟩
theorem lw_p23 : lw_okq (⟨"HeapPressModel", "isWrong", "(III)Z"⟩, 12) := ⟨⟨by decide +kernel, by decide +kernel⟩, List.mem_of_getElem? (i := 305) (by decide +kernel), List.mem_of_getElem? (i := 402) (by decide +kernel), List.mem_of_getElem? (i := 403) (by decide +kernel)⟩
theorem lw_p24 : lw_okq (⟨"HeapPressModel", "fails", "(II)Z"⟩, 12) := ⟨⟨by decide +kernel, by decide +kernel⟩, List.mem_of_getElem? (i := 305) (by decide +kernel), List.mem_of_getElem? (i := 414) (by decide +kernel), List.mem_of_getElem? (i := 415) (by decide +kernel)⟩
def lw_privs_2 : List (MethodName × Nat) := [(⟨"HeapPress", "numberCell", "(II)I"⟩, 8), (⟨"HeapPressModel", "reach", "(I)V"⟩, 12), (⟨"HeapPressModel", "isRegister", "(I)Z"⟩, 12), (⟨"HeapPressModel", "made", "(II)I"⟩, 12), (⟨"HeapPressModel", "cells", "()I"⟩, 12), (⟨"HeapPressModel", "cellsOf", "(I)I"⟩, 12), (⟨"HeapPressModel", "placeOf", "(I)I"⟩, 12), (⟨"HeapPressModel", "isWrong", "(III)Z"⟩, 12), (⟨"HeapPressModel", "fails", "(II)Z"⟩, 12)]
theorem lw_r2 : ∀ q ∈ lw_privs_2, lw_okq q := List.forall_mem_cons.mpr ⟨lw_p16, List.forall_mem_cons.mpr ⟨lw_p17, List.forall_mem_cons.mpr ⟨lw_p18, List.forall_mem_cons.mpr ⟨lw_p19, List.forall_mem_cons.mpr ⟨lw_p20, List.forall_mem_cons.mpr ⟨lw_p21, List.forall_mem_cons.mpr ⟨lw_p22, List.forall_mem_cons.mpr ⟨lw_p23, List.forall_mem_cons.mpr ⟨lw_p24, fun _ h => absurd h List.not_mem_nil⟩⟩⟩⟩⟩⟩⟩⟩⟩
def lw_privs : List (MethodName × Nat) := lw_privs_1 ++ (lw_privs_2)
def lw_tbl : List Cond := k2_sels lw_privs ++ tables_1
theorem lw_privs_ok : ∀ q ∈ lw_privs, lw_okq q := by
  show ∀ q ∈ lw_privs_1 ++ (lw_privs_2), lw_okq q
  exact List.forall_mem_append.mpr ⟨lw_r1, lw_r2⟩
end
section
def RX0 : String := "HeapPress"
def RX1 : String := "HeapPressModel"
def RL : String := "HeapPressLaw"
def RJ7 : String := "java/util/Arrays"
def TX0 : u_T := fun k => match k with
  | 0 => ("HeapPress", "cells", "[J", true)
  | 1 => ("HeapPress", "registers", "[I", true)
  | 2 => ("HeapPress", "taken", "I", false)
  | 3 => ("HeapPress", "objects", "I", false)
  | 4 => ("HeapPress", "collections", "I", false)
  | 5 => ("HeapPress", "reached", "[I", true)
  | 6 => ("HeapPress", "reachedCount", "I", false)
  | _ => ("HeapPress", "newPlaces", "[I", true)
def tyX0 : Nat → FieldType := fun k => match k with
  | 0 => .array .long
  | 1 => .array .int
  | 2 => .int
  | 3 => .int
  | 4 => .int
  | 5 => .array .int
  | 6 => .int
  | _ => .array .int
theorem nmX0 : ∀ a, a < 8 → ∀ b, b < 8 → a ≠ b → (TX0 a).2.1 ≠ (TX0 b).2.1 := by decide +kernel
theorem tyX0_ok : ∀ k, k < 8 → parseFieldDescriptor (TX0 k).2.2.1 = some (tyX0 k) := by decide +kernel
def TX1 : u_T := fun k => match k with
  | 0 => ("HeapPressModel", "thrown", "I", false)
  | 1 => ("HeapPressModel", "kind", "[I", true)
  | 2 => ("HeapPressModel", "size", "[I", true)
  | 3 => ("HeapPressModel", "order", "[I", true)
  | 4 => ("HeapPressModel", "link", "[I", true)
  | 5 => ("HeapPressModel", "number", "[J", true)
  | 6 => ("HeapPressModel", "reached", "[Z", true)
  | 7 => ("HeapPressModel", "register", "[I", true)
  | 8 => ("HeapPressModel", "todo", "[I", true)
  | 9 => ("HeapPressModel", "objects", "I", false)
  | 10 => ("HeapPressModel", "collected", "I", false)
  | _ => ("HeapPressModel", "tops", "I", false)
def tyX1 : Nat → FieldType := fun k => match k with
  | 0 => .int
  | 1 => .array .int
  | 2 => .array .int
  | 3 => .array .int
  | 4 => .array .int
  | 5 => .array .long
  | 6 => .array .boolean
  | 7 => .array .int
  | 8 => .array .int
  | 9 => .int
  | 10 => .int
  | _ => .int
theorem nmX1 : ∀ a, a < 12 → ∀ b, b < 12 → a ≠ b → (TX1 a).2.1 ≠ (TX1 b).2.1 := by decide +kernel
theorem tyX1_ok : ∀ k, k < 12 → parseFieldDescriptor (TX1 k).2.2.1 = some (tyX1 k) := by decide +kernel
abbrev vwCl : List vw_C := [(RX0, TX0, 8), (RX1, TX1, 12)]
abbrev cX0_init : ByteArray := prog_1_method_1_code
def yX0_init : MethodName := ⟨RX0, "<init>", "()V"⟩
abbrev cX0_make : ByteArray := prog_1_method_2_code
def yX0_make : MethodName := ⟨RX0, "make", "(IZI)I"⟩
abbrev cX0_weak : ByteArray := prog_1_method_3_code
def yX0_weak : MethodName := ⟨RX0, "weak", "(II)I"⟩
abbrev cX0_copy : ByteArray := prog_1_method_4_code
def yX0_copy : MethodName := ⟨RX0, "copy", "(II)V"⟩
abbrev cX0_drop : ByteArray := prog_1_method_5_code
def yX0_drop : MethodName := ⟨RX0, "drop", "(I)V"⟩
abbrev cX0_link : ByteArray := prog_1_method_6_code
def yX0_link : MethodName := ⟨RX0, "link", "(III)V"⟩
abbrev cX0_follow : ByteArray := prog_1_method_7_code
def yX0_follow : MethodName := ⟨RX0, "follow", "(III)V"⟩
abbrev cX0_put : ByteArray := prog_1_method_8_code
def yX0_put : MethodName := ⟨RX0, "put", "(IIJ)V"⟩
abbrev cX0_get : ByteArray := prog_1_method_9_code
def yX0_get : MethodName := ⟨RX0, "get", "(II)J"⟩
abbrev cX0_collect : ByteArray := prog_1_method_10_code
def yX0_collect : MethodName := ⟨RX0, "collect", "()I"⟩
abbrev cX0_state : ByteArray := prog_1_method_11_code
def yX0_state : MethodName := ⟨RX0, "state", "(II)I"⟩
abbrev cX0_count : ByteArray := prog_1_method_12_code
def yX0_count : MethodName := ⟨RX0, "count", "(I)I"⟩
abbrev cX0_checkRegister : ByteArray := prog_1_method_13_code
def yX0_checkRegister : MethodName := ⟨RX0, "checkRegister", "(I)V"⟩
abbrev cX0_checkBelow : ByteArray := prog_1_method_14_code
def yX0_checkBelow : MethodName := ⟨RX0, "checkBelow", "(II)V"⟩
abbrev cX0_checkKind : ByteArray := prog_1_method_15_code
def yX0_checkKind : MethodName := ⟨RX0, "checkKind", "(Z)V"⟩
abbrev cX0_checkNotNull : ByteArray := prog_1_method_16_code
def yX0_checkNotNull : MethodName := ⟨RX0, "checkNotNull", "(I)V"⟩
abbrev cX0_numberCell : ByteArray := prog_1_method_17_code
def yX0_numberCell : MethodName := ⟨RX0, "numberCell", "(II)I"⟩
abbrev cX0_kindAt : ByteArray := prog_1_method_18_code
def yX0_kindAt : MethodName := ⟨RX0, "kindAt", "(I)I"⟩
abbrev cX0_lengthAt : ByteArray := prog_1_method_19_code
def yX0_lengthAt : MethodName := ⟨RX0, "lengthAt", "(I)I"⟩
abbrev cX0_sizeAt : ByteArray := prog_1_method_20_code
def yX0_sizeAt : MethodName := ⟨RX0, "sizeAt", "(I)I"⟩
abbrev cX0_takeCells : ByteArray := prog_1_method_21_code
def yX0_takeCells : MethodName := ⟨RX0, "takeCells", "(II)I"⟩
abbrev cX0_hasRoom : ByteArray := prog_1_method_22_code
def yX0_hasRoom : MethodName := ⟨RX0, "hasRoom", "(I)Z"⟩
abbrev cX0_pressTogether : ByteArray := prog_1_method_23_code
def yX0_pressTogether : MethodName := ⟨RX0, "pressTogether", "()V"⟩
abbrev cX0_findReached : ByteArray := prog_1_method_24_code
def yX0_findReached : MethodName := ⟨RX0, "findReached", "()V"⟩
abbrev cX0_noteContents : ByteArray := prog_1_method_25_code
def yX0_noteContents : MethodName := ⟨RX0, "noteContents", "(I)V"⟩
abbrev cX0_noteReached : ByteArray := prog_1_method_26_code
def yX0_noteReached : MethodName := ⟨RX0, "noteReached", "(I)V"⟩
abbrev cX0_planNewPlaces : ByteArray := prog_1_method_27_code
def yX0_planNewPlaces : MethodName := ⟨RX0, "planNewPlaces", "()I"⟩
abbrev cX0_redirectRegisters : ByteArray := prog_1_method_28_code
def yX0_redirectRegisters : MethodName := ⟨RX0, "redirectRegisters", "()V"⟩
abbrev cX0_redirectContents : ByteArray := prog_1_method_29_code
def yX0_redirectContents : MethodName := ⟨RX0, "redirectContents", "()V"⟩
abbrev cX0_redirectContentsAt : ByteArray := prog_1_method_30_code
def yX0_redirectContentsAt : MethodName := ⟨RX0, "redirectContentsAt", "(I)V"⟩
abbrev cX0_newPlaceOf : ByteArray := prog_1_method_31_code
def yX0_newPlaceOf : MethodName := ⟨RX0, "newPlaceOf", "(I)I"⟩
abbrev cX0_moveDown : ByteArray := prog_1_method_32_code
def yX0_moveDown : MethodName := ⟨RX0, "moveDown", "()V"⟩
abbrev cX1_init : ByteArray := prog_3_method_1_code
def yX1_init : MethodName := ⟨RX1, "<init>", "()V"⟩
abbrev cX1_thrown : ByteArray := prog_3_method_2_code
def yX1_thrown : MethodName := ⟨RX1, "thrown", "()I"⟩
abbrev cX1_isRegister : ByteArray := prog_3_method_3_code
def yX1_isRegister : MethodName := ⟨RX1, "isRegister", "(I)Z"⟩
abbrev cX1_cellsOf : ByteArray := prog_3_method_4_code
def yX1_cellsOf : MethodName := ⟨RX1, "cellsOf", "(I)I"⟩
abbrev cX1_cells : ByteArray := prog_3_method_5_code
def yX1_cells : MethodName := ⟨RX1, "cells", "()I"⟩
abbrev cX1_placeOf : ByteArray := prog_3_method_6_code
def yX1_placeOf : MethodName := ⟨RX1, "placeOf", "(I)I"⟩
abbrev cX1_reach : ByteArray := prog_3_method_7_code
def yX1_reach : MethodName := ⟨RX1, "reach", "(I)V"⟩
abbrev cX1_collect : ByteArray := prog_3_method_8_code
def yX1_collect : MethodName := ⟨RX1, "collect", "()I"⟩
abbrev cX1_made : ByteArray := prog_3_method_9_code
def yX1_made : MethodName := ⟨RX1, "made", "(II)I"⟩
abbrev cX1_make : ByteArray := prog_3_method_10_code
def yX1_make : MethodName := ⟨RX1, "make", "(IZI)I"⟩
abbrev cX1_weak : ByteArray := prog_3_method_11_code
def yX1_weak : MethodName := ⟨RX1, "weak", "(II)I"⟩
abbrev cX1_copy : ByteArray := prog_3_method_12_code
def yX1_copy : MethodName := ⟨RX1, "copy", "(II)V"⟩
abbrev cX1_drop : ByteArray := prog_3_method_13_code
def yX1_drop : MethodName := ⟨RX1, "drop", "(I)V"⟩
abbrev cX1_isWrong : ByteArray := prog_3_method_14_code
def yX1_isWrong : MethodName := ⟨RX1, "isWrong", "(III)Z"⟩
abbrev cX1_link : ByteArray := prog_3_method_15_code
def yX1_link : MethodName := ⟨RX1, "link", "(III)V"⟩
abbrev cX1_follow : ByteArray := prog_3_method_16_code
def yX1_follow : MethodName := ⟨RX1, "follow", "(III)V"⟩
abbrev cX1_fails : ByteArray := prog_3_method_17_code
def yX1_fails : MethodName := ⟨RX1, "fails", "(II)Z"⟩
abbrev cX1_put : ByteArray := prog_3_method_18_code
def yX1_put : MethodName := ⟨RX1, "put", "(IIJ)V"⟩
abbrev cX1_get : ByteArray := prog_3_method_19_code
def yX1_get : MethodName := ⟨RX1, "get", "(II)J"⟩
abbrev cX1_state : ByteArray := prog_3_method_20_code
def yX1_state : MethodName := ⟨RX1, "state", "(II)I"⟩
abbrev cX1_count : ByteArray := prog_3_method_21_code
def yX1_count : MethodName := ⟨RX1, "count", "(I)I"⟩
abbrev cL_make : ByteArray := method_3_code
def yL_make : MethodName := ⟨RL, "make", "(LHeapPress;IZI[J)I"⟩
abbrev cL_weak : ByteArray := method_4_code
def yL_weak : MethodName := ⟨RL, "weak", "(LHeapPress;II[J)I"⟩
abbrev cL_copy : ByteArray := method_5_code
def yL_copy : MethodName := ⟨RL, "copy", "(LHeapPress;II)I"⟩
abbrev cL_drop : ByteArray := method_6_code
def yL_drop : MethodName := ⟨RL, "drop", "(LHeapPress;I)I"⟩
abbrev cL_link : ByteArray := method_7_code
def yL_link : MethodName := ⟨RL, "link", "(LHeapPress;III)I"⟩
abbrev cL_follow : ByteArray := method_8_code
def yL_follow : MethodName := ⟨RL, "follow", "(LHeapPress;III)I"⟩
abbrev cL_put : ByteArray := method_9_code
def yL_put : MethodName := ⟨RL, "put", "(LHeapPress;IIJ)I"⟩
abbrev cL_get : ByteArray := method_10_code
def yL_get : MethodName := ⟨RL, "get", "(LHeapPress;II[J)I"⟩
abbrev cL_state : ByteArray := method_11_code
def yL_state : MethodName := ⟨RL, "state", "(LHeapPress;II[J)I"⟩
abbrev cJ7_fill : ByteArray := prog_11_method_103_code
def yJ7_fill : MethodName := ⟨RJ7, "fill", "([II)V"⟩
abbrev cL_law : ByteArray := code
def wb : List Cond := lw_tbl.filter goodWord
theorem wb_mem {w : Cond} (h : w ∈ lw_tbl) (g : goodWord w = true) : w ∈ wb := List.mem_filter.mpr ⟨h, g⟩
theorem wb_good : GoodIn wb wb := fun w h => ⟨h, good_of_word (List.mem_filter.mp h).2⟩
theorem wb_in {w : Cond} (h : w ∈ wb) : w ∈ lw_tbl := (List.mem_filter.mp h).1
theorem wb_V {own C : String} {idx : Nat} {y : MethodName} {w : Cond} (h1 : .methodLink own idx y ∈ wb) (h2 : .instanceMethod y ∈ wb) (h3 : .selects C y y ∈ wb) (h4 : .initialized C ∈ wb) (h5 : w ∈ wb) : GoodIn wb (wsV own idx C y (w :: wb)) := fun x hx => wb_good x (by
  rcases List.mem_append.mp hx with h | h
  · simp only [List.mem_cons, List.not_mem_nil, or_false] at h
    rcases h with rfl | rfl | rfl | rfl
    · exact h1
    · exact h2
    · exact h3
    · exact h4
  · rcases List.mem_cons.mp h with rfl | h
    · exact h5
    · exact h)
theorem wb_S {own : String} {idx : Nat} {y : MethodName} {w : Cond} (h1 : .methodLink own idx y ∈ wb) (h2 : .static y ∈ wb) (h4 : .initialized y.cls ∈ wb) (h5 : w ∈ wb) : GoodIn wb (va_wsS own idx y (w :: wb)) := fun x hx => wb_good x (by
  rcases List.mem_append.mp hx with h | h
  · simp only [List.mem_cons, List.not_mem_nil, or_false] at h
    rcases h with rfl | rfl | rfl
    · exact h1
    · exact h2
    · exact h4
  · rcases List.mem_cons.mp h with rfl | h
    · exact h5
    · exact h)
theorem bw_se_X0_pressTogether : .selects RX0 yX0_pressTogether yX0_pressTogether ∈ wb := wb_mem (List.mem_append_left _ (List.mem_of_getElem? (i := 0) rfl)) rfl
theorem bw_se_X0_findReached : .selects RX0 yX0_findReached yX0_findReached ∈ wb := wb_mem (List.mem_append_left _ (List.mem_of_getElem? (i := 1) rfl)) rfl
theorem bw_se_X0_noteReached : .selects RX0 yX0_noteReached yX0_noteReached ∈ wb := wb_mem (List.mem_append_left _ (List.mem_of_getElem? (i := 2) rfl)) rfl
theorem bw_se_X0_kindAt : .selects RX0 yX0_kindAt yX0_kindAt ∈ wb := wb_mem (List.mem_append_left _ (List.mem_of_getElem? (i := 3) rfl)) rfl
theorem bw_se_X0_noteContents : .selects RX0 yX0_noteContents yX0_noteContents ∈ wb := wb_mem (List.mem_append_left _ (List.mem_of_getElem? (i := 4) rfl)) rfl
theorem bw_se_X0_sizeAt : .selects RX0 yX0_sizeAt yX0_sizeAt ∈ wb := wb_mem (List.mem_append_left _ (List.mem_of_getElem? (i := 5) rfl)) rfl
theorem bw_se_X0_lengthAt : .selects RX0 yX0_lengthAt yX0_lengthAt ∈ wb := wb_mem (List.mem_append_left _ (List.mem_of_getElem? (i := 6) rfl)) rfl
theorem bw_se_X0_planNewPlaces : .selects RX0 yX0_planNewPlaces yX0_planNewPlaces ∈ wb := wb_mem (List.mem_append_left _ (List.mem_of_getElem? (i := 7) rfl)) rfl
theorem bw_se_X0_redirectRegisters : .selects RX0 yX0_redirectRegisters yX0_redirectRegisters ∈ wb := wb_mem (List.mem_append_left _ (List.mem_of_getElem? (i := 8) rfl)) rfl
theorem bw_se_X0_newPlaceOf : .selects RX0 yX0_newPlaceOf yX0_newPlaceOf ∈ wb := wb_mem (List.mem_append_left _ (List.mem_of_getElem? (i := 9) rfl)) rfl
theorem bw_se_X0_redirectContents : .selects RX0 yX0_redirectContents yX0_redirectContents ∈ wb := wb_mem (List.mem_append_left _ (List.mem_of_getElem? (i := 10) rfl)) rfl
theorem bw_se_X0_redirectContentsAt : .selects RX0 yX0_redirectContentsAt yX0_redirectContentsAt ∈ wb := wb_mem (List.mem_append_left _ (List.mem_of_getElem? (i := 11) rfl)) rfl
theorem bw_se_X0_moveDown : .selects RX0 yX0_moveDown yX0_moveDown ∈ wb := wb_mem (List.mem_append_left _ (List.mem_of_getElem? (i := 12) rfl)) rfl
theorem bw_se_X0_takeCells : .selects RX0 yX0_takeCells yX0_takeCells ∈ wb := wb_mem (List.mem_append_left _ (List.mem_of_getElem? (i := 14) rfl)) rfl
theorem bw_se_X0_hasRoom : .selects RX0 yX0_hasRoom yX0_hasRoom ∈ wb := wb_mem (List.mem_append_left _ (List.mem_of_getElem? (i := 15) rfl)) rfl
theorem bw_se_X0_numberCell : .selects RX0 yX0_numberCell yX0_numberCell ∈ wb := wb_mem (List.mem_append_left _ (List.mem_of_getElem? (i := 16) rfl)) rfl
theorem bw_se_X1_reach : .selects RX1 yX1_reach yX1_reach ∈ wb := wb_mem (List.mem_append_left _ (List.mem_of_getElem? (i := 17) rfl)) rfl
theorem bw_se_X1_isRegister : .selects RX1 yX1_isRegister yX1_isRegister ∈ wb := wb_mem (List.mem_append_left _ (List.mem_of_getElem? (i := 18) rfl)) rfl
theorem bw_se_X1_made : .selects RX1 yX1_made yX1_made ∈ wb := wb_mem (List.mem_append_left _ (List.mem_of_getElem? (i := 19) rfl)) rfl
theorem bw_se_X1_cells : .selects RX1 yX1_cells yX1_cells ∈ wb := wb_mem (List.mem_append_left _ (List.mem_of_getElem? (i := 20) rfl)) rfl
theorem bw_se_X1_cellsOf : .selects RX1 yX1_cellsOf yX1_cellsOf ∈ wb := wb_mem (List.mem_append_left _ (List.mem_of_getElem? (i := 21) rfl)) rfl
theorem bw_se_X1_placeOf : .selects RX1 yX1_placeOf yX1_placeOf ∈ wb := wb_mem (List.mem_append_left _ (List.mem_of_getElem? (i := 22) rfl)) rfl
theorem bw_se_X1_isWrong : .selects RX1 yX1_isWrong yX1_isWrong ∈ wb := wb_mem (List.mem_append_left _ (List.mem_of_getElem? (i := 23) rfl)) rfl
theorem bw_se_X1_fails : .selects RX1 yX1_fails yX1_fails ∈ wb := wb_mem (List.mem_append_left _ (List.mem_of_getElem? (i := 24) rfl)) rfl
theorem bw_in_HeapPressLaw : .initialized RL ∈ wb := wb_mem (List.mem_append_right _ (List.mem_append_left _ (List.mem_of_getElem? (i := 0) rfl))) rfl
theorem bw_in_HeapPress : .initialized RX0 ∈ wb := wb_mem (List.mem_append_right _ (List.mem_append_left _ (List.mem_of_getElem? (i := 1) rfl))) rfl
theorem bw_in_java_util_Arrays : .initialized RJ7 ∈ wb := wb_mem (List.mem_append_right _ (List.mem_append_left _ (List.mem_of_getElem? (i := 2) rfl))) rfl
theorem bw_in_HeapPressModel : .initialized RX1 ∈ wb := wb_mem (List.mem_append_right _ (List.mem_append_left _ (List.mem_of_getElem? (i := 3) rfl))) rfl
theorem bw_in_java_lang_Throwable : .initialized "java/lang/Throwable" ∈ wb := wb_mem (List.mem_append_right _ (List.mem_append_left _ (List.mem_of_getElem? (i := 4) rfl))) rfl
theorem bw_in_java_lang_Exception : .initialized "java/lang/Exception" ∈ wb := wb_mem (List.mem_append_right _ (List.mem_append_left _ (List.mem_of_getElem? (i := 5) rfl))) rfl
theorem bw_in_java_lang_RuntimeException : .initialized "java/lang/RuntimeException" ∈ wb := wb_mem (List.mem_append_right _ (List.mem_append_left _ (List.mem_of_getElem? (i := 6) rfl))) rfl
theorem bw_in_java_lang_IllegalArgumentException : .initialized "java/lang/IllegalArgumentException" ∈ wb := wb_mem (List.mem_append_right _ (List.mem_append_left _ (List.mem_of_getElem? (i := 7) rfl))) rfl
theorem bw_in_java_lang_System : .initialized "java/lang/System" ∈ wb := wb_mem (List.mem_append_right _ (List.mem_append_left _ (List.mem_of_getElem? (i := 8) rfl))) rfl
theorem bw_in_java_lang_IllegalStateException : .initialized "java/lang/IllegalStateException" ∈ wb := wb_mem (List.mem_append_right _ (List.mem_append_left _ (List.mem_of_getElem? (i := 9) rfl))) rfl
theorem bw_in_java_util_NoSuchElementException : .initialized "java/util/NoSuchElementException" ∈ wb := wb_mem (List.mem_append_right _ (List.mem_append_left _ (List.mem_of_getElem? (i := 10) rfl))) rfl
theorem bw_cl_L_8 : .classLink RL 8 RX0 ∈ wb := wb_mem (List.mem_append_right _ (List.mem_append_left _ (List.mem_of_getElem? (i := 11) rfl))) rfl
theorem bw_ia_HeapPress : .instantiable RX0 8 ∈ wb := wb_mem (List.mem_append_right _ (List.mem_append_left _ (List.mem_of_getElem? (i := 12) rfl))) rfl
theorem bw_ml_L_49 : .methodLink RL 49 yX0_init ∈ wb := wb_mem (List.mem_append_right _ (List.mem_append_left _ (List.mem_of_getElem? (i := 13) rfl))) rfl
theorem bw_im_X0_init : .instanceMethod yX0_init ∈ wb := wb_mem (List.mem_append_right _ (List.mem_append_left _ (List.mem_of_getElem? (i := 14) rfl))) rfl
theorem bw_co_X0_init : .code yX0_init cX0_init 1 none ∈ wb := wb_mem (List.mem_append_right _ (List.mem_append_left _ (List.mem_of_getElem? (i := 15) rfl))) rfl
theorem bw_ml_X0_1 : .methodLink RX0 1 objectInit ∈ wb := wb_mem (List.mem_append_right _ (List.mem_append_left _ (List.mem_of_getElem? (i := 16) rfl))) rfl
theorem bw_im_objectInit : .instanceMethod objectInit ∈ wb := wb_mem (List.mem_append_right _ (List.mem_append_left _ (List.mem_of_getElem? (i := 17) rfl))) rfl
theorem bw_co_objectInit : .code objectInit ⟨#[0xb1]⟩ 1 none ∈ wb := wb_mem (List.mem_append_right _ (List.mem_append_left _ (List.mem_of_getElem? (i := 18) rfl))) rfl
theorem bw_ml_X0_36 : .methodLink RX0 36 yJ7_fill ∈ wb := wb_mem (List.mem_append_right _ (List.mem_append_left _ (List.mem_of_getElem? (i := 19) rfl))) rfl
theorem bw_st_J7_fill : .static yJ7_fill ∈ wb := wb_mem (List.mem_append_right _ (List.mem_append_left _ (List.mem_of_getElem? (i := 20) rfl))) rfl
theorem bw_co_J7_fill : .code yJ7_fill cJ7_fill 4 none ∈ wb := wb_mem (List.mem_append_right _ (List.mem_append_left _ (List.mem_of_getElem? (i := 21) rfl))) rfl
theorem bw_fl_X0_9 : .fieldLink RX0 9 "HeapPress" "cells" "[J" ∈ wb := wb_mem (List.mem_append_right _ (List.mem_append_left _ (List.mem_of_getElem? (i := 22) rfl))) rfl
theorem bw_fl_X0_13 : .fieldLink RX0 13 "HeapPress" "registers" "[I" ∈ wb := wb_mem (List.mem_append_right _ (List.mem_append_left _ (List.mem_of_getElem? (i := 23) rfl))) rfl
theorem bw_fl_X0_17 : .fieldLink RX0 17 "HeapPress" "taken" "I" ∈ wb := wb_mem (List.mem_append_right _ (List.mem_append_left _ (List.mem_of_getElem? (i := 24) rfl))) rfl
theorem bw_fl_X0_21 : .fieldLink RX0 21 "HeapPress" "objects" "I" ∈ wb := wb_mem (List.mem_append_right _ (List.mem_append_left _ (List.mem_of_getElem? (i := 25) rfl))) rfl
theorem bw_fl_X0_24 : .fieldLink RX0 24 "HeapPress" "collections" "I" ∈ wb := wb_mem (List.mem_append_right _ (List.mem_append_left _ (List.mem_of_getElem? (i := 26) rfl))) rfl
theorem bw_fl_X0_27 : .fieldLink RX0 27 "HeapPress" "reached" "[I" ∈ wb := wb_mem (List.mem_append_right _ (List.mem_append_left _ (List.mem_of_getElem? (i := 27) rfl))) rfl
theorem bw_fl_X0_30 : .fieldLink RX0 30 "HeapPress" "reachedCount" "I" ∈ wb := wb_mem (List.mem_append_right _ (List.mem_append_left _ (List.mem_of_getElem? (i := 28) rfl))) rfl
theorem bw_fl_X0_33 : .fieldLink RX0 33 "HeapPress" "newPlaces" "[I" ∈ wb := wb_mem (List.mem_append_right _ (List.mem_append_left _ (List.mem_of_getElem? (i := 29) rfl))) rfl
theorem bw_ly_X0_cells : .laysFinal RX0 "HeapPress" "cells" "[J" ∈ wb := wb_mem (List.mem_append_right _ (List.mem_append_left _ (List.mem_of_getElem? (i := 30) rfl))) rfl
theorem bw_ly_X0_registers : .laysFinal RX0 "HeapPress" "registers" "[I" ∈ wb := wb_mem (List.mem_append_right _ (List.mem_append_left _ (List.mem_of_getElem? (i := 32) rfl))) rfl
theorem bw_ly_X0_taken : .lays RX0 "HeapPress" "taken" "I" ∈ wb := wb_mem (List.mem_append_right _ (List.mem_append_left _ (List.mem_of_getElem? (i := 34) rfl))) rfl
theorem bw_ly_X0_objects : .lays RX0 "HeapPress" "objects" "I" ∈ wb := wb_mem (List.mem_append_right _ (List.mem_append_left _ (List.mem_of_getElem? (i := 36) rfl))) rfl
theorem bw_ly_X0_collections : .lays RX0 "HeapPress" "collections" "I" ∈ wb := wb_mem (List.mem_append_right _ (List.mem_append_left _ (List.mem_of_getElem? (i := 38) rfl))) rfl
theorem bw_ly_X0_reached : .laysFinal RX0 "HeapPress" "reached" "[I" ∈ wb := wb_mem (List.mem_append_right _ (List.mem_append_left _ (List.mem_of_getElem? (i := 40) rfl))) rfl
theorem bw_ly_X0_reachedCount : .lays RX0 "HeapPress" "reachedCount" "I" ∈ wb := wb_mem (List.mem_append_right _ (List.mem_append_left _ (List.mem_of_getElem? (i := 42) rfl))) rfl
theorem bw_ly_X0_newPlaces : .laysFinal RX0 "HeapPress" "newPlaces" "[I" ∈ wb := wb_mem (List.mem_append_right _ (List.mem_append_left _ (List.mem_of_getElem? (i := 44) rfl))) rfl
theorem bw_ac_long : .arrayClass .long ∈ wb := wb_mem (List.mem_append_right _ (List.mem_append_left _ (List.mem_of_getElem? (i := 47) rfl))) rfl
theorem bw_ac_int : .arrayClass .int ∈ wb := wb_mem (List.mem_append_right _ (List.mem_append_left _ (List.mem_of_getElem? (i := 48) rfl))) rfl
theorem bw_ml_L_91 : .methodLink RL 91 yX0_collect ∈ wb := wb_mem (List.mem_append_right _ (List.mem_append_left _ (List.mem_of_getElem? (i := 49) rfl))) rfl
theorem bw_im_X0_collect : .instanceMethod yX0_collect ∈ wb := wb_mem (List.mem_append_right _ (List.mem_append_left _ (List.mem_of_getElem? (i := 50) rfl))) rfl
theorem bw_se_X0_collect : .selects RX0 yX0_collect yX0_collect ∈ wb := wb_mem (List.mem_append_right _ (List.mem_append_left _ (List.mem_of_getElem? (i := 51) rfl))) rfl
theorem bw_co_X0_collect : .code yX0_collect cX0_collect 2 (some .int) ∈ wb := wb_mem (List.mem_append_right _ (List.mem_append_left _ (List.mem_of_getElem? (i := 52) rfl))) rfl
theorem bw_ml_X0_73 : .methodLink RX0 73 yX0_pressTogether ∈ wb := wb_mem (List.mem_append_right _ (List.mem_append_left _ (List.mem_of_getElem? (i := 53) rfl))) rfl
theorem bw_im_X0_pressTogether : .instanceMethod yX0_pressTogether ∈ wb := wb_mem (List.mem_append_right _ (List.mem_append_left _ (List.mem_of_getElem? (i := 55) rfl))) rfl
theorem bw_co_X0_pressTogether : .code yX0_pressTogether cX0_pressTogether 2 none ∈ wb := wb_mem (List.mem_append_right _ (List.mem_append_left _ (List.mem_of_getElem? (i := 56) rfl))) rfl
theorem bw_ml_X0_99 : .methodLink RX0 99 yX0_findReached ∈ wb := wb_mem (List.mem_append_right _ (List.mem_append_left _ (List.mem_of_getElem? (i := 57) rfl))) rfl
theorem bw_im_X0_findReached : .instanceMethod yX0_findReached ∈ wb := wb_mem (List.mem_append_right _ (List.mem_append_left _ (List.mem_of_getElem? (i := 59) rfl))) rfl
theorem bw_co_X0_findReached : .code yX0_findReached cX0_findReached 2 none ∈ wb := wb_mem (List.mem_append_right _ (List.mem_append_left _ (List.mem_of_getElem? (i := 60) rfl))) rfl
theorem bw_ml_X0_115 : .methodLink RX0 115 yX0_noteReached ∈ wb := wb_mem (List.mem_append_right _ (List.mem_append_left _ (List.mem_of_getElem? (i := 61) rfl))) rfl
theorem bw_im_X0_noteReached : .instanceMethod yX0_noteReached ∈ wb := wb_mem (List.mem_append_right _ (List.mem_append_left _ (List.mem_of_getElem? (i := 63) rfl))) rfl
theorem bw_co_X0_noteReached : .code yX0_noteReached cX0_noteReached 2 none ∈ wb := wb_mem (List.mem_append_right _ (List.mem_append_left _ (List.mem_of_getElem? (i := 64) rfl))) rfl
theorem bw_ml_X0_59 : .methodLink RX0 59 yX0_kindAt ∈ wb := wb_mem (List.mem_append_right _ (List.mem_append_left _ (List.mem_of_getElem? (i := 65) rfl))) rfl
theorem bw_im_X0_kindAt : .instanceMethod yX0_kindAt ∈ wb := wb_mem (List.mem_append_right _ (List.mem_append_left _ (List.mem_of_getElem? (i := 67) rfl))) rfl
theorem bw_co_X0_kindAt : .code yX0_kindAt cX0_kindAt 2 (some .int) ∈ wb := wb_mem (List.mem_append_right _ (List.mem_append_left _ (List.mem_of_getElem? (i := 68) rfl))) rfl
theorem bw_ml_X0_118 : .methodLink RX0 118 yX0_noteContents ∈ wb := wb_mem (List.mem_append_right _ (List.mem_append_left _ (List.mem_of_getElem? (i := 69) rfl))) rfl
theorem bw_im_X0_noteContents : .instanceMethod yX0_noteContents ∈ wb := wb_mem (List.mem_append_right _ (List.mem_append_left _ (List.mem_of_getElem? (i := 71) rfl))) rfl
theorem bw_co_X0_noteContents : .code yX0_noteContents cX0_noteContents 4 none ∈ wb := wb_mem (List.mem_append_right _ (List.mem_append_left _ (List.mem_of_getElem? (i := 72) rfl))) rfl
theorem bw_ml_X0_121 : .methodLink RX0 121 yX0_sizeAt ∈ wb := wb_mem (List.mem_append_right _ (List.mem_append_left _ (List.mem_of_getElem? (i := 73) rfl))) rfl
theorem bw_im_X0_sizeAt : .instanceMethod yX0_sizeAt ∈ wb := wb_mem (List.mem_append_right _ (List.mem_append_left _ (List.mem_of_getElem? (i := 75) rfl))) rfl
theorem bw_co_X0_sizeAt : .code yX0_sizeAt cX0_sizeAt 2 (some .int) ∈ wb := wb_mem (List.mem_append_right _ (List.mem_append_left _ (List.mem_of_getElem? (i := 76) rfl))) rfl
theorem bw_ml_X0_67 : .methodLink RX0 67 yX0_lengthAt ∈ wb := wb_mem (List.mem_append_right _ (List.mem_append_left _ (List.mem_of_getElem? (i := 77) rfl))) rfl
theorem bw_im_X0_lengthAt : .instanceMethod yX0_lengthAt ∈ wb := wb_mem (List.mem_append_right _ (List.mem_append_left _ (List.mem_of_getElem? (i := 79) rfl))) rfl
theorem bw_co_X0_lengthAt : .code yX0_lengthAt cX0_lengthAt 2 (some .int) ∈ wb := wb_mem (List.mem_append_right _ (List.mem_append_left _ (List.mem_of_getElem? (i := 80) rfl))) rfl
theorem bw_ml_X0_102 : .methodLink RX0 102 yX0_planNewPlaces ∈ wb := wb_mem (List.mem_append_right _ (List.mem_append_left _ (List.mem_of_getElem? (i := 81) rfl))) rfl
theorem bw_im_X0_planNewPlaces : .instanceMethod yX0_planNewPlaces ∈ wb := wb_mem (List.mem_append_right _ (List.mem_append_left _ (List.mem_of_getElem? (i := 83) rfl))) rfl
theorem bw_co_X0_planNewPlaces : .code yX0_planNewPlaces cX0_planNewPlaces 5 (some .int) ∈ wb := wb_mem (List.mem_append_right _ (List.mem_append_left _ (List.mem_of_getElem? (i := 84) rfl))) rfl
theorem bw_ml_X0_106 : .methodLink RX0 106 yX0_redirectRegisters ∈ wb := wb_mem (List.mem_append_right _ (List.mem_append_left _ (List.mem_of_getElem? (i := 85) rfl))) rfl
theorem bw_im_X0_redirectRegisters : .instanceMethod yX0_redirectRegisters ∈ wb := wb_mem (List.mem_append_right _ (List.mem_append_left _ (List.mem_of_getElem? (i := 87) rfl))) rfl
theorem bw_co_X0_redirectRegisters : .code yX0_redirectRegisters cX0_redirectRegisters 2 none ∈ wb := wb_mem (List.mem_append_right _ (List.mem_append_left _ (List.mem_of_getElem? (i := 88) rfl))) rfl
theorem bw_ml_X0_124 : .methodLink RX0 124 yX0_newPlaceOf ∈ wb := wb_mem (List.mem_append_right _ (List.mem_append_left _ (List.mem_of_getElem? (i := 89) rfl))) rfl
theorem bw_im_X0_newPlaceOf : .instanceMethod yX0_newPlaceOf ∈ wb := wb_mem (List.mem_append_right _ (List.mem_append_left _ (List.mem_of_getElem? (i := 91) rfl))) rfl
theorem bw_co_X0_newPlaceOf : .code yX0_newPlaceOf cX0_newPlaceOf 2 (some .int) ∈ wb := wb_mem (List.mem_append_right _ (List.mem_append_left _ (List.mem_of_getElem? (i := 92) rfl))) rfl
theorem bw_ml_X0_109 : .methodLink RX0 109 yX0_redirectContents ∈ wb := wb_mem (List.mem_append_right _ (List.mem_append_left _ (List.mem_of_getElem? (i := 93) rfl))) rfl
theorem bw_im_X0_redirectContents : .instanceMethod yX0_redirectContents ∈ wb := wb_mem (List.mem_append_right _ (List.mem_append_left _ (List.mem_of_getElem? (i := 95) rfl))) rfl
theorem bw_co_X0_redirectContents : .code yX0_redirectContents cX0_redirectContents 3 none ∈ wb := wb_mem (List.mem_append_right _ (List.mem_append_left _ (List.mem_of_getElem? (i := 96) rfl))) rfl
theorem bw_ml_X0_127 : .methodLink RX0 127 yX0_redirectContentsAt ∈ wb := wb_mem (List.mem_append_right _ (List.mem_append_left _ (List.mem_of_getElem? (i := 97) rfl))) rfl
theorem bw_im_X0_redirectContentsAt : .instanceMethod yX0_redirectContentsAt ∈ wb := wb_mem (List.mem_append_right _ (List.mem_append_left _ (List.mem_of_getElem? (i := 99) rfl))) rfl
theorem bw_co_X0_redirectContentsAt : .code yX0_redirectContentsAt cX0_redirectContentsAt 4 none ∈ wb := wb_mem (List.mem_append_right _ (List.mem_append_left _ (List.mem_of_getElem? (i := 100) rfl))) rfl
theorem bw_ml_X0_112 : .methodLink RX0 112 yX0_moveDown ∈ wb := wb_mem (List.mem_append_right _ (List.mem_append_left _ (List.mem_of_getElem? (i := 101) rfl))) rfl
theorem bw_im_X0_moveDown : .instanceMethod yX0_moveDown ∈ wb := wb_mem (List.mem_append_right _ (List.mem_append_left _ (List.mem_of_getElem? (i := 103) rfl))) rfl
theorem bw_co_X0_moveDown : .code yX0_moveDown cX0_moveDown 4 none ∈ wb := wb_mem (List.mem_append_right _ (List.mem_append_left _ (List.mem_of_getElem? (i := 104) rfl))) rfl
theorem bw_ml_X0_130 : .methodLink RX0 130 arraycopyName ∈ wb := wb_mem (List.mem_append_right _ (List.mem_append_left _ (List.mem_of_getElem? (i := 105) rfl))) rfl
theorem bw_st_arraycopyName : .static arraycopyName ∈ wb := wb_mem (List.mem_append_right _ (List.mem_append_left _ (List.mem_of_getElem? (i := 106) rfl))) rfl
theorem bw_na_arraycopyName : .native arraycopyName ∈ wb := wb_mem (List.mem_append_right _ (List.mem_append_left _ (List.mem_of_getElem? (i := 107) rfl))) rfl
theorem bw_ml_L_98 : .methodLink RL 98 yX0_count ∈ wb := wb_mem (List.mem_append_right _ (List.mem_append_left _ (List.mem_of_getElem? (i := 108) rfl))) rfl
theorem bw_im_X0_count : .instanceMethod yX0_count ∈ wb := wb_mem (List.mem_append_right _ (List.mem_append_left _ (List.mem_of_getElem? (i := 109) rfl))) rfl
theorem bw_se_X0_count : .selects RX0 yX0_count yX0_count ∈ wb := wb_mem (List.mem_append_right _ (List.mem_append_left _ (List.mem_of_getElem? (i := 110) rfl))) rfl
theorem bw_co_X0_count : .code yX0_count cX0_count 2 (some .int) ∈ wb := wb_mem (List.mem_append_right _ (List.mem_append_left _ (List.mem_of_getElem? (i := 111) rfl))) rfl
theorem bw_ml_L_53 : .methodLink RL 53 yL_make ∈ wb := wb_mem (List.mem_append_right _ (List.mem_append_left _ (List.mem_of_getElem? (i := 112) rfl))) rfl
theorem bw_st_L_make : .static yL_make ∈ wb := wb_mem (List.mem_append_right _ (List.mem_append_left _ (List.mem_of_getElem? (i := 113) rfl))) rfl
theorem bw_co_L_make : .codeWith yL_make cL_make 6 (some .int) [(0, 12, 15, 13), (0, 12, 19, 15)] ∈ wb := wb_mem (List.mem_append_right _ (List.mem_append_left _ (List.mem_of_getElem? (i := 114) rfl))) rfl
theorem bw_cl_L_13 : .classLink RL 13 "java/lang/IllegalArgumentException" ∈ wb := wb_mem (List.mem_append_right _ (List.mem_append_left _ (List.mem_of_getElem? (i := 115) rfl))) rfl
theorem bw_cl_L_15 : .classLink RL 15 "java/lang/IllegalStateException" ∈ wb := wb_mem (List.mem_append_right _ (List.mem_append_left _ (List.mem_of_getElem? (i := 116) rfl))) rfl
theorem bw_ml_L_7 : .methodLink RL 7 yX0_make ∈ wb := wb_mem (List.mem_append_right _ (List.mem_append_left _ (List.mem_of_getElem? (i := 117) rfl))) rfl
theorem bw_im_X0_make : .instanceMethod yX0_make ∈ wb := wb_mem (List.mem_append_right _ (List.mem_append_left _ (List.mem_of_getElem? (i := 118) rfl))) rfl
theorem bw_se_X0_make : .selects RX0 yX0_make yX0_make ∈ wb := wb_mem (List.mem_append_right _ (List.mem_append_left _ (List.mem_of_getElem? (i := 119) rfl))) rfl
theorem bw_co_X0_make : .code yX0_make cX0_make 8 (some .int) ∈ wb := wb_mem (List.mem_append_right _ (List.mem_append_left _ (List.mem_of_getElem? (i := 120) rfl))) rfl
theorem bw_ml_X0_42 : .methodLink RX0 42 yX0_checkRegister ∈ wb := wb_mem (List.mem_append_right _ (List.mem_append_left _ (List.mem_of_getElem? (i := 121) rfl))) rfl
theorem bw_st_X0_checkRegister : .static yX0_checkRegister ∈ wb := wb_mem (List.mem_append_right _ (List.mem_append_left _ (List.mem_of_getElem? (i := 122) rfl))) rfl
theorem bw_co_X0_checkRegister : .code yX0_checkRegister cX0_checkRegister 1 none ∈ wb := wb_mem (List.mem_append_right _ (List.mem_append_left _ (List.mem_of_getElem? (i := 123) rfl))) rfl
theorem bw_ml_X0_46 : .methodLink RX0 46 yX0_checkBelow ∈ wb := wb_mem (List.mem_append_right _ (List.mem_append_left _ (List.mem_of_getElem? (i := 124) rfl))) rfl
theorem bw_st_X0_checkBelow : .static yX0_checkBelow ∈ wb := wb_mem (List.mem_append_right _ (List.mem_append_left _ (List.mem_of_getElem? (i := 125) rfl))) rfl
theorem bw_co_X0_checkBelow : .code yX0_checkBelow cX0_checkBelow 2 none ∈ wb := wb_mem (List.mem_append_right _ (List.mem_append_left _ (List.mem_of_getElem? (i := 126) rfl))) rfl
theorem bw_cl_X0_76 : .classLink RX0 76 "java/lang/IllegalArgumentException" ∈ wb := wb_mem (List.mem_append_right _ (List.mem_append_left _ (List.mem_of_getElem? (i := 127) rfl))) rfl
theorem bw_ia_java_lang_IllegalArgumentException : .instantiable "java/lang/IllegalArgumentException" 6 ∈ wb := wb_mem (List.mem_append_right _ (List.mem_append_left _ (List.mem_of_getElem? (i := 128) rfl))) rfl
theorem bw_ia_java_lang_Throwable : .instantiable "java/lang/Throwable" 6 ∈ wb := wb_mem (List.mem_append_right _ (List.mem_append_left _ (List.mem_of_getElem? (i := 166) rfl))) rfl
theorem bw_ml_X0_80 : .methodLink RX0 80 ⟨"java/lang/IllegalArgumentException", "<init>", "(Ljava/lang/String;)V"⟩ ∈ wb := wb_mem (List.mem_append_right _ (List.mem_append_left _ (List.mem_of_getElem? (i := 169) rfl))) rfl
theorem bw_ac_byte : .arrayClass .byte ∈ wb := wb_mem (List.mem_append_right _ (List.mem_append_left _ (List.mem_of_getElem? (i := 194) rfl))) rfl
theorem bw_ml_X0_50 : .methodLink RX0 50 yX0_takeCells ∈ wb := wb_mem (List.mem_append_right _ (List.mem_append_left _ (List.mem_of_getElem? (i := 195) rfl))) rfl
theorem bw_im_X0_takeCells : .instanceMethod yX0_takeCells ∈ wb := wb_mem (List.mem_append_right _ (List.mem_append_left _ (List.mem_of_getElem? (i := 197) rfl))) rfl
theorem bw_co_X0_takeCells : .code yX0_takeCells cX0_takeCells 4 (some .int) ∈ wb := wb_mem (List.mem_append_right _ (List.mem_append_left _ (List.mem_of_getElem? (i := 198) rfl))) rfl
theorem bw_ml_X0_90 : .methodLink RX0 90 yX0_hasRoom ∈ wb := wb_mem (List.mem_append_right _ (List.mem_append_left _ (List.mem_of_getElem? (i := 199) rfl))) rfl
theorem bw_im_X0_hasRoom : .instanceMethod yX0_hasRoom ∈ wb := wb_mem (List.mem_append_right _ (List.mem_append_left _ (List.mem_of_getElem? (i := 201) rfl))) rfl
theorem bw_co_X0_hasRoom : .code yX0_hasRoom cX0_hasRoom 2 (some .boolean) ∈ wb := wb_mem (List.mem_append_right _ (List.mem_append_left _ (List.mem_of_getElem? (i := 202) rfl))) rfl
theorem bw_cl_X0_94 : .classLink RX0 94 "java/lang/IllegalStateException" ∈ wb := wb_mem (List.mem_append_right _ (List.mem_append_left _ (List.mem_of_getElem? (i := 203) rfl))) rfl
theorem bw_ia_java_lang_IllegalStateException : .instantiable "java/lang/IllegalStateException" 6 ∈ wb := wb_mem (List.mem_append_right _ (List.mem_append_left _ (List.mem_of_getElem? (i := 204) rfl))) rfl
theorem bw_ml_X0_98 : .methodLink RX0 98 ⟨"java/lang/IllegalStateException", "<init>", "(Ljava/lang/String;)V"⟩ ∈ wb := wb_mem (List.mem_append_right _ (List.mem_append_left _ (List.mem_of_getElem? (i := 213) rfl))) rfl
theorem bw_kl_X0_54 : .constantLong RX0 54 (-1) ∈ wb := wb_mem (List.mem_append_right _ (List.mem_append_left _ (List.mem_of_getElem? (i := 219) rfl))) rfl
theorem bw_ml_L_63 : .methodLink RL 63 yL_weak ∈ wb := wb_mem (List.mem_append_right _ (List.mem_append_left _ (List.mem_of_getElem? (i := 220) rfl))) rfl
theorem bw_st_L_weak : .static yL_weak ∈ wb := wb_mem (List.mem_append_right _ (List.mem_append_left _ (List.mem_of_getElem? (i := 221) rfl))) rfl
theorem bw_co_L_weak : .codeWith yL_weak cL_weak 5 (some .int) [(0, 10, 13, 13), (0, 10, 17, 15), (0, 10, 21, 21)] ∈ wb := wb_mem (List.mem_append_right _ (List.mem_append_left _ (List.mem_of_getElem? (i := 222) rfl))) rfl
theorem bw_cl_L_21 : .classLink RL 21 "java/util/NoSuchElementException" ∈ wb := wb_mem (List.mem_append_right _ (List.mem_append_left _ (List.mem_of_getElem? (i := 223) rfl))) rfl
theorem bw_ml_L_17 : .methodLink RL 17 yX0_weak ∈ wb := wb_mem (List.mem_append_right _ (List.mem_append_left _ (List.mem_of_getElem? (i := 224) rfl))) rfl
theorem bw_im_X0_weak : .instanceMethod yX0_weak ∈ wb := wb_mem (List.mem_append_right _ (List.mem_append_left _ (List.mem_of_getElem? (i := 225) rfl))) rfl
theorem bw_se_X0_weak : .selects RX0 yX0_weak yX0_weak ∈ wb := wb_mem (List.mem_append_right _ (List.mem_append_left _ (List.mem_of_getElem? (i := 226) rfl))) rfl
theorem bw_co_X0_weak : .code yX0_weak cX0_weak 4 (some .int) ∈ wb := wb_mem (List.mem_append_right _ (List.mem_append_left _ (List.mem_of_getElem? (i := 227) rfl))) rfl
theorem bw_ml_X0_56 : .methodLink RX0 56 yX0_checkNotNull ∈ wb := wb_mem (List.mem_append_right _ (List.mem_append_left _ (List.mem_of_getElem? (i := 228) rfl))) rfl
theorem bw_st_X0_checkNotNull : .static yX0_checkNotNull ∈ wb := wb_mem (List.mem_append_right _ (List.mem_append_left _ (List.mem_of_getElem? (i := 229) rfl))) rfl
theorem bw_co_X0_checkNotNull : .code yX0_checkNotNull cX0_checkNotNull 1 none ∈ wb := wb_mem (List.mem_append_right _ (List.mem_append_left _ (List.mem_of_getElem? (i := 230) rfl))) rfl
theorem bw_cl_X0_85 : .classLink RX0 85 "java/util/NoSuchElementException" ∈ wb := wb_mem (List.mem_append_right _ (List.mem_append_left _ (List.mem_of_getElem? (i := 231) rfl))) rfl
theorem bw_ia_java_util_NoSuchElementException : .instantiable "java/util/NoSuchElementException" 6 ∈ wb := wb_mem (List.mem_append_right _ (List.mem_append_left _ (List.mem_of_getElem? (i := 232) rfl))) rfl
theorem bw_ml_X0_89 : .methodLink RX0 89 ⟨"java/util/NoSuchElementException", "<init>", "(Ljava/lang/String;)V"⟩ ∈ wb := wb_mem (List.mem_append_right _ (List.mem_append_right _ (List.mem_of_getElem? (i := 1) rfl))) rfl
theorem bw_ml_L_67 : .methodLink RL 67 yL_copy ∈ wb := wb_mem (List.mem_append_right _ (List.mem_append_right _ (List.mem_of_getElem? (i := 7) rfl))) rfl
theorem bw_st_L_copy : .static yL_copy ∈ wb := wb_mem (List.mem_append_right _ (List.mem_append_right _ (List.mem_of_getElem? (i := 8) rfl))) rfl
theorem bw_co_L_copy : .codeWith yL_copy cL_copy 4 (some .int) [(0, 6, 9, 13)] ∈ wb := wb_mem (List.mem_append_right _ (List.mem_append_right _ (List.mem_of_getElem? (i := 9) rfl))) rfl
theorem bw_ml_L_23 : .methodLink RL 23 yX0_copy ∈ wb := wb_mem (List.mem_append_right _ (List.mem_append_right _ (List.mem_of_getElem? (i := 10) rfl))) rfl
theorem bw_im_X0_copy : .instanceMethod yX0_copy ∈ wb := wb_mem (List.mem_append_right _ (List.mem_append_right _ (List.mem_of_getElem? (i := 11) rfl))) rfl
theorem bw_se_X0_copy : .selects RX0 yX0_copy yX0_copy ∈ wb := wb_mem (List.mem_append_right _ (List.mem_append_right _ (List.mem_of_getElem? (i := 12) rfl))) rfl
theorem bw_co_X0_copy : .code yX0_copy cX0_copy 3 none ∈ wb := wb_mem (List.mem_append_right _ (List.mem_append_right _ (List.mem_of_getElem? (i := 13) rfl))) rfl
theorem bw_ml_L_71 : .methodLink RL 71 yL_drop ∈ wb := wb_mem (List.mem_append_right _ (List.mem_append_right _ (List.mem_of_getElem? (i := 14) rfl))) rfl
theorem bw_st_L_drop : .static yL_drop ∈ wb := wb_mem (List.mem_append_right _ (List.mem_append_right _ (List.mem_of_getElem? (i := 15) rfl))) rfl
theorem bw_co_L_drop : .codeWith yL_drop cL_drop 3 (some .int) [(0, 5, 8, 13)] ∈ wb := wb_mem (List.mem_append_right _ (List.mem_append_right _ (List.mem_of_getElem? (i := 16) rfl))) rfl
theorem bw_ml_L_27 : .methodLink RL 27 yX0_drop ∈ wb := wb_mem (List.mem_append_right _ (List.mem_append_right _ (List.mem_of_getElem? (i := 17) rfl))) rfl
theorem bw_im_X0_drop : .instanceMethod yX0_drop ∈ wb := wb_mem (List.mem_append_right _ (List.mem_append_right _ (List.mem_of_getElem? (i := 18) rfl))) rfl
theorem bw_se_X0_drop : .selects RX0 yX0_drop yX0_drop ∈ wb := wb_mem (List.mem_append_right _ (List.mem_append_right _ (List.mem_of_getElem? (i := 19) rfl))) rfl
theorem bw_co_X0_drop : .code yX0_drop cX0_drop 2 none ∈ wb := wb_mem (List.mem_append_right _ (List.mem_append_right _ (List.mem_of_getElem? (i := 20) rfl))) rfl
theorem bw_ml_L_75 : .methodLink RL 75 yL_link ∈ wb := wb_mem (List.mem_append_right _ (List.mem_append_right _ (List.mem_of_getElem? (i := 21) rfl))) rfl
theorem bw_st_L_link : .static yL_link ∈ wb := wb_mem (List.mem_append_right _ (List.mem_append_right _ (List.mem_of_getElem? (i := 22) rfl))) rfl
theorem bw_co_L_link : .codeWith yL_link cL_link 5 (some .int) [(0, 7, 10, 13), (0, 7, 14, 21)] ∈ wb := wb_mem (List.mem_append_right _ (List.mem_append_right _ (List.mem_of_getElem? (i := 23) rfl))) rfl
theorem bw_ml_L_31 : .methodLink RL 31 yX0_link ∈ wb := wb_mem (List.mem_append_right _ (List.mem_append_right _ (List.mem_of_getElem? (i := 24) rfl))) rfl
theorem bw_im_X0_link : .instanceMethod yX0_link ∈ wb := wb_mem (List.mem_append_right _ (List.mem_append_right _ (List.mem_of_getElem? (i := 25) rfl))) rfl
theorem bw_se_X0_link : .selects RX0 yX0_link yX0_link ∈ wb := wb_mem (List.mem_append_right _ (List.mem_append_right _ (List.mem_of_getElem? (i := 26) rfl))) rfl
theorem bw_co_X0_link : .code yX0_link cX0_link 5 none ∈ wb := wb_mem (List.mem_append_right _ (List.mem_append_right _ (List.mem_of_getElem? (i := 27) rfl))) rfl
theorem bw_ml_X0_63 : .methodLink RX0 63 yX0_checkKind ∈ wb := wb_mem (List.mem_append_right _ (List.mem_append_right _ (List.mem_of_getElem? (i := 28) rfl))) rfl
theorem bw_st_X0_checkKind : .static yX0_checkKind ∈ wb := wb_mem (List.mem_append_right _ (List.mem_append_right _ (List.mem_of_getElem? (i := 29) rfl))) rfl
theorem bw_co_X0_checkKind : .code yX0_checkKind cX0_checkKind 1 none ∈ wb := wb_mem (List.mem_append_right _ (List.mem_append_right _ (List.mem_of_getElem? (i := 30) rfl))) rfl
theorem bw_ml_L_79 : .methodLink RL 79 yL_follow ∈ wb := wb_mem (List.mem_append_right _ (List.mem_append_right _ (List.mem_of_getElem? (i := 32) rfl))) rfl
theorem bw_st_L_follow : .static yL_follow ∈ wb := wb_mem (List.mem_append_right _ (List.mem_append_right _ (List.mem_of_getElem? (i := 33) rfl))) rfl
theorem bw_co_L_follow : .codeWith yL_follow cL_follow 5 (some .int) [(0, 7, 10, 13), (0, 7, 14, 21)] ∈ wb := wb_mem (List.mem_append_right _ (List.mem_append_right _ (List.mem_of_getElem? (i := 34) rfl))) rfl
theorem bw_ml_L_35 : .methodLink RL 35 yX0_follow ∈ wb := wb_mem (List.mem_append_right _ (List.mem_append_right _ (List.mem_of_getElem? (i := 35) rfl))) rfl
theorem bw_im_X0_follow : .instanceMethod yX0_follow ∈ wb := wb_mem (List.mem_append_right _ (List.mem_append_right _ (List.mem_of_getElem? (i := 36) rfl))) rfl
theorem bw_se_X0_follow : .selects RX0 yX0_follow yX0_follow ∈ wb := wb_mem (List.mem_append_right _ (List.mem_append_right _ (List.mem_of_getElem? (i := 37) rfl))) rfl
theorem bw_co_X0_follow : .code yX0_follow cX0_follow 5 none ∈ wb := wb_mem (List.mem_append_right _ (List.mem_append_right _ (List.mem_of_getElem? (i := 38) rfl))) rfl
theorem bw_ml_L_84 : .methodLink RL 84 yL_put ∈ wb := wb_mem (List.mem_append_right _ (List.mem_append_right _ (List.mem_of_getElem? (i := 39) rfl))) rfl
theorem bw_st_L_put : .static yL_put ∈ wb := wb_mem (List.mem_append_right _ (List.mem_append_right _ (List.mem_of_getElem? (i := 40) rfl))) rfl
theorem bw_co_L_put : .codeWith yL_put cL_put 6 (some .int) [(0, 7, 10, 13), (0, 7, 14, 21)] ∈ wb := wb_mem (List.mem_append_right _ (List.mem_append_right _ (List.mem_of_getElem? (i := 41) rfl))) rfl
theorem bw_ml_L_38 : .methodLink RL 38 yX0_put ∈ wb := wb_mem (List.mem_append_right _ (List.mem_append_right _ (List.mem_of_getElem? (i := 42) rfl))) rfl
theorem bw_im_X0_put : .instanceMethod yX0_put ∈ wb := wb_mem (List.mem_append_right _ (List.mem_append_right _ (List.mem_of_getElem? (i := 43) rfl))) rfl
theorem bw_se_X0_put : .selects RX0 yX0_put yX0_put ∈ wb := wb_mem (List.mem_append_right _ (List.mem_append_right _ (List.mem_of_getElem? (i := 44) rfl))) rfl
theorem bw_co_X0_put : .code yX0_put cX0_put 5 none ∈ wb := wb_mem (List.mem_append_right _ (List.mem_append_right _ (List.mem_of_getElem? (i := 45) rfl))) rfl
theorem bw_ml_X0_70 : .methodLink RX0 70 yX0_numberCell ∈ wb := wb_mem (List.mem_append_right _ (List.mem_append_right _ (List.mem_of_getElem? (i := 46) rfl))) rfl
theorem bw_im_X0_numberCell : .instanceMethod yX0_numberCell ∈ wb := wb_mem (List.mem_append_right _ (List.mem_append_right _ (List.mem_of_getElem? (i := 48) rfl))) rfl
theorem bw_co_X0_numberCell : .code yX0_numberCell cX0_numberCell 4 (some .int) ∈ wb := wb_mem (List.mem_append_right _ (List.mem_append_right _ (List.mem_of_getElem? (i := 49) rfl))) rfl
theorem bw_ml_L_88 : .methodLink RL 88 yL_get ∈ wb := wb_mem (List.mem_append_right _ (List.mem_append_right _ (List.mem_of_getElem? (i := 50) rfl))) rfl
theorem bw_st_L_get : .static yL_get ∈ wb := wb_mem (List.mem_append_right _ (List.mem_append_right _ (List.mem_of_getElem? (i := 51) rfl))) rfl
theorem bw_co_L_get : .codeWith yL_get cL_get 5 (some .int) [(0, 9, 12, 13), (0, 9, 16, 21)] ∈ wb := wb_mem (List.mem_append_right _ (List.mem_append_right _ (List.mem_of_getElem? (i := 52) rfl))) rfl
theorem bw_ml_L_42 : .methodLink RL 42 yX0_get ∈ wb := wb_mem (List.mem_append_right _ (List.mem_append_right _ (List.mem_of_getElem? (i := 53) rfl))) rfl
theorem bw_im_X0_get : .instanceMethod yX0_get ∈ wb := wb_mem (List.mem_append_right _ (List.mem_append_right _ (List.mem_of_getElem? (i := 54) rfl))) rfl
theorem bw_se_X0_get : .selects RX0 yX0_get yX0_get ∈ wb := wb_mem (List.mem_append_right _ (List.mem_append_right _ (List.mem_of_getElem? (i := 55) rfl))) rfl
theorem bw_co_X0_get : .code yX0_get cX0_get 3 (some .long) ∈ wb := wb_mem (List.mem_append_right _ (List.mem_append_right _ (List.mem_of_getElem? (i := 56) rfl))) rfl
theorem bw_ml_L_95 : .methodLink RL 95 yL_state ∈ wb := wb_mem (List.mem_append_right _ (List.mem_append_right _ (List.mem_of_getElem? (i := 57) rfl))) rfl
theorem bw_st_L_state : .static yL_state ∈ wb := wb_mem (List.mem_append_right _ (List.mem_append_right _ (List.mem_of_getElem? (i := 58) rfl))) rfl
theorem bw_co_L_state : .codeWith yL_state cL_state 5 (some .int) [(0, 10, 13, 13)] ∈ wb := wb_mem (List.mem_append_right _ (List.mem_append_right _ (List.mem_of_getElem? (i := 59) rfl))) rfl
theorem bw_ml_L_46 : .methodLink RL 46 yX0_state ∈ wb := wb_mem (List.mem_append_right _ (List.mem_append_right _ (List.mem_of_getElem? (i := 60) rfl))) rfl
theorem bw_im_X0_state : .instanceMethod yX0_state ∈ wb := wb_mem (List.mem_append_right _ (List.mem_append_right _ (List.mem_of_getElem? (i := 61) rfl))) rfl
theorem bw_se_X0_state : .selects RX0 yX0_state yX0_state ∈ wb := wb_mem (List.mem_append_right _ (List.mem_append_right _ (List.mem_of_getElem? (i := 62) rfl))) rfl
theorem bw_co_X0_state : .code yX0_state cX0_state 4 (some .int) ∈ wb := wb_mem (List.mem_append_right _ (List.mem_append_right _ (List.mem_of_getElem? (i := 63) rfl))) rfl
theorem bw_cl_L_50 : .classLink RL 50 RX1 ∈ wb := wb_mem (List.mem_append_right _ (List.mem_append_right _ (List.mem_of_getElem? (i := 64) rfl))) rfl
theorem bw_ia_HeapPressModel : .instantiable RX1 12 ∈ wb := wb_mem (List.mem_append_right _ (List.mem_append_right _ (List.mem_of_getElem? (i := 65) rfl))) rfl
theorem bw_ml_L_52 : .methodLink RL 52 yX1_init ∈ wb := wb_mem (List.mem_append_right _ (List.mem_append_right _ (List.mem_of_getElem? (i := 66) rfl))) rfl
theorem bw_im_X1_init : .instanceMethod yX1_init ∈ wb := wb_mem (List.mem_append_right _ (List.mem_append_right _ (List.mem_of_getElem? (i := 67) rfl))) rfl
theorem bw_co_X1_init : .code yX1_init cX1_init 1 none ∈ wb := wb_mem (List.mem_append_right _ (List.mem_append_right _ (List.mem_of_getElem? (i := 68) rfl))) rfl
theorem bw_ml_X1_1 : .methodLink RX1 1 objectInit ∈ wb := wb_mem (List.mem_append_right _ (List.mem_append_right _ (List.mem_of_getElem? (i := 69) rfl))) rfl
theorem bw_fl_X1_36 : .fieldLink RX1 36 "HeapPressModel" "thrown" "I" ∈ wb := wb_mem (List.mem_append_right _ (List.mem_append_right _ (List.mem_of_getElem? (i := 70) rfl))) rfl
theorem bw_fl_X1_7 : .fieldLink RX1 7 "HeapPressModel" "kind" "[I" ∈ wb := wb_mem (List.mem_append_right _ (List.mem_append_right _ (List.mem_of_getElem? (i := 71) rfl))) rfl
theorem bw_fl_X1_13 : .fieldLink RX1 13 "HeapPressModel" "size" "[I" ∈ wb := wb_mem (List.mem_append_right _ (List.mem_append_right _ (List.mem_of_getElem? (i := 72) rfl))) rfl
theorem bw_fl_X1_16 : .fieldLink RX1 16 "HeapPressModel" "order" "[I" ∈ wb := wb_mem (List.mem_append_right _ (List.mem_append_right _ (List.mem_of_getElem? (i := 73) rfl))) rfl
theorem bw_fl_X1_19 : .fieldLink RX1 19 "HeapPressModel" "link" "[I" ∈ wb := wb_mem (List.mem_append_right _ (List.mem_append_right _ (List.mem_of_getElem? (i := 74) rfl))) rfl
theorem bw_fl_X1_22 : .fieldLink RX1 22 "HeapPressModel" "number" "[J" ∈ wb := wb_mem (List.mem_append_right _ (List.mem_append_right _ (List.mem_of_getElem? (i := 75) rfl))) rfl
theorem bw_fl_X1_26 : .fieldLink RX1 26 "HeapPressModel" "reached" "[Z" ∈ wb := wb_mem (List.mem_append_right _ (List.mem_append_right _ (List.mem_of_getElem? (i := 76) rfl))) rfl
theorem bw_fl_X1_30 : .fieldLink RX1 30 "HeapPressModel" "register" "[I" ∈ wb := wb_mem (List.mem_append_right _ (List.mem_append_right _ (List.mem_of_getElem? (i := 77) rfl))) rfl
theorem bw_fl_X1_33 : .fieldLink RX1 33 "HeapPressModel" "todo" "[I" ∈ wb := wb_mem (List.mem_append_right _ (List.mem_append_right _ (List.mem_of_getElem? (i := 78) rfl))) rfl
theorem bw_fl_X1_40 : .fieldLink RX1 40 "HeapPressModel" "objects" "I" ∈ wb := wb_mem (List.mem_append_right _ (List.mem_append_right _ (List.mem_of_getElem? (i := 79) rfl))) rfl
theorem bw_fl_X1_50 : .fieldLink RX1 50 "HeapPressModel" "collected" "I" ∈ wb := wb_mem (List.mem_append_right _ (List.mem_append_right _ (List.mem_of_getElem? (i := 80) rfl))) rfl
theorem bw_fl_X1_47 : .fieldLink RX1 47 "HeapPressModel" "tops" "I" ∈ wb := wb_mem (List.mem_append_right _ (List.mem_append_right _ (List.mem_of_getElem? (i := 81) rfl))) rfl
theorem bw_ly_X1_thrown : .lays RX1 "HeapPressModel" "thrown" "I" ∈ wb := wb_mem (List.mem_append_right _ (List.mem_append_right _ (List.mem_of_getElem? (i := 82) rfl))) rfl
theorem bw_ly_X1_kind : .laysFinal RX1 "HeapPressModel" "kind" "[I" ∈ wb := wb_mem (List.mem_append_right _ (List.mem_append_right _ (List.mem_of_getElem? (i := 84) rfl))) rfl
theorem bw_ly_X1_size : .laysFinal RX1 "HeapPressModel" "size" "[I" ∈ wb := wb_mem (List.mem_append_right _ (List.mem_append_right _ (List.mem_of_getElem? (i := 86) rfl))) rfl
theorem bw_ly_X1_order : .laysFinal RX1 "HeapPressModel" "order" "[I" ∈ wb := wb_mem (List.mem_append_right _ (List.mem_append_right _ (List.mem_of_getElem? (i := 88) rfl))) rfl
theorem bw_ly_X1_link : .laysFinal RX1 "HeapPressModel" "link" "[I" ∈ wb := wb_mem (List.mem_append_right _ (List.mem_append_right _ (List.mem_of_getElem? (i := 90) rfl))) rfl
theorem bw_ly_X1_number : .laysFinal RX1 "HeapPressModel" "number" "[J" ∈ wb := wb_mem (List.mem_append_right _ (List.mem_append_right _ (List.mem_of_getElem? (i := 92) rfl))) rfl
theorem bw_ly_X1_reached : .laysFinal RX1 "HeapPressModel" "reached" "[Z" ∈ wb := wb_mem (List.mem_append_right _ (List.mem_append_right _ (List.mem_of_getElem? (i := 94) rfl))) rfl
theorem bw_ly_X1_register : .laysFinal RX1 "HeapPressModel" "register" "[I" ∈ wb := wb_mem (List.mem_append_right _ (List.mem_append_right _ (List.mem_of_getElem? (i := 96) rfl))) rfl
theorem bw_ly_X1_todo : .laysFinal RX1 "HeapPressModel" "todo" "[I" ∈ wb := wb_mem (List.mem_append_right _ (List.mem_append_right _ (List.mem_of_getElem? (i := 98) rfl))) rfl
theorem bw_ly_X1_objects : .lays RX1 "HeapPressModel" "objects" "I" ∈ wb := wb_mem (List.mem_append_right _ (List.mem_append_right _ (List.mem_of_getElem? (i := 100) rfl))) rfl
theorem bw_ly_X1_collected : .lays RX1 "HeapPressModel" "collected" "I" ∈ wb := wb_mem (List.mem_append_right _ (List.mem_append_right _ (List.mem_of_getElem? (i := 102) rfl))) rfl
theorem bw_ly_X1_tops : .lays RX1 "HeapPressModel" "tops" "I" ∈ wb := wb_mem (List.mem_append_right _ (List.mem_append_right _ (List.mem_of_getElem? (i := 104) rfl))) rfl
theorem bw_ac_boolean : .arrayClass .boolean ∈ wb := wb_mem (List.mem_append_right _ (List.mem_append_right _ (List.mem_of_getElem? (i := 107) rfl))) rfl
theorem bw_ml_L_59 : .methodLink RL 59 yX1_thrown ∈ wb := wb_mem (List.mem_append_right _ (List.mem_append_right _ (List.mem_of_getElem? (i := 108) rfl))) rfl
theorem bw_im_X1_thrown : .instanceMethod yX1_thrown ∈ wb := wb_mem (List.mem_append_right _ (List.mem_append_right _ (List.mem_of_getElem? (i := 109) rfl))) rfl
theorem bw_se_X1_thrown : .selects RX1 yX1_thrown yX1_thrown ∈ wb := wb_mem (List.mem_append_right _ (List.mem_append_right _ (List.mem_of_getElem? (i := 110) rfl))) rfl
theorem bw_co_X1_thrown : .code yX1_thrown cX1_thrown 1 (some .int) ∈ wb := wb_mem (List.mem_append_right _ (List.mem_append_right _ (List.mem_of_getElem? (i := 111) rfl))) rfl
theorem bw_ml_L_94 : .methodLink RL 94 yX1_collect ∈ wb := wb_mem (List.mem_append_right _ (List.mem_append_right _ (List.mem_of_getElem? (i := 112) rfl))) rfl
theorem bw_im_X1_collect : .instanceMethod yX1_collect ∈ wb := wb_mem (List.mem_append_right _ (List.mem_append_right _ (List.mem_of_getElem? (i := 113) rfl))) rfl
theorem bw_se_X1_collect : .selects RX1 yX1_collect yX1_collect ∈ wb := wb_mem (List.mem_append_right _ (List.mem_append_right _ (List.mem_of_getElem? (i := 114) rfl))) rfl
theorem bw_co_X1_collect : .code yX1_collect cX1_collect 5 (some .int) ∈ wb := wb_mem (List.mem_append_right _ (List.mem_append_right _ (List.mem_of_getElem? (i := 115) rfl))) rfl
theorem bw_ml_X1_53 : .methodLink RX1 53 yX1_reach ∈ wb := wb_mem (List.mem_append_right _ (List.mem_append_right _ (List.mem_of_getElem? (i := 116) rfl))) rfl
theorem bw_im_X1_reach : .instanceMethod yX1_reach ∈ wb := wb_mem (List.mem_append_right _ (List.mem_append_right _ (List.mem_of_getElem? (i := 118) rfl))) rfl
theorem bw_co_X1_reach : .code yX1_reach cX1_reach 2 none ∈ wb := wb_mem (List.mem_append_right _ (List.mem_append_right _ (List.mem_of_getElem? (i := 119) rfl))) rfl
theorem bw_ml_L_58 : .methodLink RL 58 yX1_make ∈ wb := wb_mem (List.mem_append_right _ (List.mem_append_right _ (List.mem_of_getElem? (i := 120) rfl))) rfl
theorem bw_im_X1_make : .instanceMethod yX1_make ∈ wb := wb_mem (List.mem_append_right _ (List.mem_append_right _ (List.mem_of_getElem? (i := 121) rfl))) rfl
theorem bw_se_X1_make : .selects RX1 yX1_make yX1_make ∈ wb := wb_mem (List.mem_append_right _ (List.mem_append_right _ (List.mem_of_getElem? (i := 122) rfl))) rfl
theorem bw_co_X1_make : .code yX1_make cX1_make 5 (some .int) ∈ wb := wb_mem (List.mem_append_right _ (List.mem_append_right _ (List.mem_of_getElem? (i := 123) rfl))) rfl
theorem bw_ml_X1_64 : .methodLink RX1 64 yX1_isRegister ∈ wb := wb_mem (List.mem_append_right _ (List.mem_append_right _ (List.mem_of_getElem? (i := 124) rfl))) rfl
theorem bw_im_X1_isRegister : .instanceMethod yX1_isRegister ∈ wb := wb_mem (List.mem_append_right _ (List.mem_append_right _ (List.mem_of_getElem? (i := 126) rfl))) rfl
theorem bw_co_X1_isRegister : .code yX1_isRegister cX1_isRegister 2 (some .boolean) ∈ wb := wb_mem (List.mem_append_right _ (List.mem_append_right _ (List.mem_of_getElem? (i := 127) rfl))) rfl
theorem bw_ml_X1_68 : .methodLink RX1 68 yX1_made ∈ wb := wb_mem (List.mem_append_right _ (List.mem_append_right _ (List.mem_of_getElem? (i := 128) rfl))) rfl
theorem bw_im_X1_made : .instanceMethod yX1_made ∈ wb := wb_mem (List.mem_append_right _ (List.mem_append_right _ (List.mem_of_getElem? (i := 130) rfl))) rfl
theorem bw_co_X1_made : .code yX1_made cX1_made 6 (some .int) ∈ wb := wb_mem (List.mem_append_right _ (List.mem_append_right _ (List.mem_of_getElem? (i := 131) rfl))) rfl
theorem bw_ml_X1_57 : .methodLink RX1 57 yX1_cells ∈ wb := wb_mem (List.mem_append_right _ (List.mem_append_right _ (List.mem_of_getElem? (i := 132) rfl))) rfl
theorem bw_im_X1_cells : .instanceMethod yX1_cells ∈ wb := wb_mem (List.mem_append_right _ (List.mem_append_right _ (List.mem_of_getElem? (i := 134) rfl))) rfl
theorem bw_co_X1_cells : .code yX1_cells cX1_cells 3 (some .int) ∈ wb := wb_mem (List.mem_append_right _ (List.mem_append_right _ (List.mem_of_getElem? (i := 135) rfl))) rfl
theorem bw_ml_X1_43 : .methodLink RX1 43 yX1_cellsOf ∈ wb := wb_mem (List.mem_append_right _ (List.mem_append_right _ (List.mem_of_getElem? (i := 136) rfl))) rfl
theorem bw_im_X1_cellsOf : .instanceMethod yX1_cellsOf ∈ wb := wb_mem (List.mem_append_right _ (List.mem_append_right _ (List.mem_of_getElem? (i := 138) rfl))) rfl
theorem bw_co_X1_cellsOf : .code yX1_cellsOf cX1_cellsOf 2 (some .int) ∈ wb := wb_mem (List.mem_append_right _ (List.mem_append_right _ (List.mem_of_getElem? (i := 139) rfl))) rfl
theorem bw_ml_X1_61 : .methodLink RX1 61 yX1_collect ∈ wb := wb_mem (List.mem_append_right _ (List.mem_append_right _ (List.mem_of_getElem? (i := 140) rfl))) rfl
theorem bw_ml_X1_72 : .methodLink RX1 72 yX1_placeOf ∈ wb := wb_mem (List.mem_append_right _ (List.mem_append_right _ (List.mem_of_getElem? (i := 141) rfl))) rfl
theorem bw_im_X1_placeOf : .instanceMethod yX1_placeOf ∈ wb := wb_mem (List.mem_append_right _ (List.mem_append_right _ (List.mem_of_getElem? (i := 143) rfl))) rfl
theorem bw_co_X1_placeOf : .code yX1_placeOf cX1_placeOf 4 (some .int) ∈ wb := wb_mem (List.mem_append_right _ (List.mem_append_right _ (List.mem_of_getElem? (i := 144) rfl))) rfl
theorem bw_ml_L_66 : .methodLink RL 66 yX1_weak ∈ wb := wb_mem (List.mem_append_right _ (List.mem_append_right _ (List.mem_of_getElem? (i := 145) rfl))) rfl
theorem bw_im_X1_weak : .instanceMethod yX1_weak ∈ wb := wb_mem (List.mem_append_right _ (List.mem_append_right _ (List.mem_of_getElem? (i := 146) rfl))) rfl
theorem bw_se_X1_weak : .selects RX1 yX1_weak yX1_weak ∈ wb := wb_mem (List.mem_append_right _ (List.mem_append_right _ (List.mem_of_getElem? (i := 147) rfl))) rfl
theorem bw_co_X1_weak : .code yX1_weak cX1_weak 4 (some .int) ∈ wb := wb_mem (List.mem_append_right _ (List.mem_append_right _ (List.mem_of_getElem? (i := 148) rfl))) rfl
theorem bw_ml_L_70 : .methodLink RL 70 yX1_copy ∈ wb := wb_mem (List.mem_append_right _ (List.mem_append_right _ (List.mem_of_getElem? (i := 149) rfl))) rfl
theorem bw_im_X1_copy : .instanceMethod yX1_copy ∈ wb := wb_mem (List.mem_append_right _ (List.mem_append_right _ (List.mem_of_getElem? (i := 150) rfl))) rfl
theorem bw_se_X1_copy : .selects RX1 yX1_copy yX1_copy ∈ wb := wb_mem (List.mem_append_right _ (List.mem_append_right _ (List.mem_of_getElem? (i := 151) rfl))) rfl
theorem bw_co_X1_copy : .code yX1_copy cX1_copy 3 none ∈ wb := wb_mem (List.mem_append_right _ (List.mem_append_right _ (List.mem_of_getElem? (i := 152) rfl))) rfl
theorem bw_ml_L_74 : .methodLink RL 74 yX1_drop ∈ wb := wb_mem (List.mem_append_right _ (List.mem_append_right _ (List.mem_of_getElem? (i := 153) rfl))) rfl
theorem bw_im_X1_drop : .instanceMethod yX1_drop ∈ wb := wb_mem (List.mem_append_right _ (List.mem_append_right _ (List.mem_of_getElem? (i := 154) rfl))) rfl
theorem bw_se_X1_drop : .selects RX1 yX1_drop yX1_drop ∈ wb := wb_mem (List.mem_append_right _ (List.mem_append_right _ (List.mem_of_getElem? (i := 155) rfl))) rfl
theorem bw_co_X1_drop : .code yX1_drop cX1_drop 2 none ∈ wb := wb_mem (List.mem_append_right _ (List.mem_append_right _ (List.mem_of_getElem? (i := 156) rfl))) rfl
theorem bw_ml_L_78 : .methodLink RL 78 yX1_link ∈ wb := wb_mem (List.mem_append_right _ (List.mem_append_right _ (List.mem_of_getElem? (i := 157) rfl))) rfl
theorem bw_im_X1_link : .instanceMethod yX1_link ∈ wb := wb_mem (List.mem_append_right _ (List.mem_append_right _ (List.mem_of_getElem? (i := 158) rfl))) rfl
theorem bw_se_X1_link : .selects RX1 yX1_link yX1_link ∈ wb := wb_mem (List.mem_append_right _ (List.mem_append_right _ (List.mem_of_getElem? (i := 159) rfl))) rfl
theorem bw_co_X1_link : .code yX1_link cX1_link 4 none ∈ wb := wb_mem (List.mem_append_right _ (List.mem_append_right _ (List.mem_of_getElem? (i := 160) rfl))) rfl
theorem bw_ml_X1_75 : .methodLink RX1 75 yX1_isWrong ∈ wb := wb_mem (List.mem_append_right _ (List.mem_append_right _ (List.mem_of_getElem? (i := 161) rfl))) rfl
theorem bw_im_X1_isWrong : .instanceMethod yX1_isWrong ∈ wb := wb_mem (List.mem_append_right _ (List.mem_append_right _ (List.mem_of_getElem? (i := 163) rfl))) rfl
theorem bw_co_X1_isWrong : .code yX1_isWrong cX1_isWrong 4 (some .boolean) ∈ wb := wb_mem (List.mem_append_right _ (List.mem_append_right _ (List.mem_of_getElem? (i := 164) rfl))) rfl
theorem bw_ml_L_81 : .methodLink RL 81 yX1_follow ∈ wb := wb_mem (List.mem_append_right _ (List.mem_append_right _ (List.mem_of_getElem? (i := 165) rfl))) rfl
theorem bw_im_X1_follow : .instanceMethod yX1_follow ∈ wb := wb_mem (List.mem_append_right _ (List.mem_append_right _ (List.mem_of_getElem? (i := 166) rfl))) rfl
theorem bw_se_X1_follow : .selects RX1 yX1_follow yX1_follow ∈ wb := wb_mem (List.mem_append_right _ (List.mem_append_right _ (List.mem_of_getElem? (i := 167) rfl))) rfl
theorem bw_co_X1_follow : .code yX1_follow cX1_follow 4 none ∈ wb := wb_mem (List.mem_append_right _ (List.mem_append_right _ (List.mem_of_getElem? (i := 168) rfl))) rfl
theorem bw_ml_L_87 : .methodLink RL 87 yX1_put ∈ wb := wb_mem (List.mem_append_right _ (List.mem_append_right _ (List.mem_of_getElem? (i := 169) rfl))) rfl
theorem bw_im_X1_put : .instanceMethod yX1_put ∈ wb := wb_mem (List.mem_append_right _ (List.mem_append_right _ (List.mem_of_getElem? (i := 170) rfl))) rfl
theorem bw_se_X1_put : .selects RX1 yX1_put yX1_put ∈ wb := wb_mem (List.mem_append_right _ (List.mem_append_right _ (List.mem_of_getElem? (i := 171) rfl))) rfl
theorem bw_co_X1_put : .code yX1_put cX1_put 5 none ∈ wb := wb_mem (List.mem_append_right _ (List.mem_append_right _ (List.mem_of_getElem? (i := 172) rfl))) rfl
theorem bw_ml_X1_79 : .methodLink RX1 79 yX1_fails ∈ wb := wb_mem (List.mem_append_right _ (List.mem_append_right _ (List.mem_of_getElem? (i := 173) rfl))) rfl
theorem bw_im_X1_fails : .instanceMethod yX1_fails ∈ wb := wb_mem (List.mem_append_right _ (List.mem_append_right _ (List.mem_of_getElem? (i := 175) rfl))) rfl
theorem bw_co_X1_fails : .code yX1_fails cX1_fails 3 (some .boolean) ∈ wb := wb_mem (List.mem_append_right _ (List.mem_append_right _ (List.mem_of_getElem? (i := 176) rfl))) rfl
theorem bw_ml_L_90 : .methodLink RL 90 yX1_get ∈ wb := wb_mem (List.mem_append_right _ (List.mem_append_right _ (List.mem_of_getElem? (i := 177) rfl))) rfl
theorem bw_im_X1_get : .instanceMethod yX1_get ∈ wb := wb_mem (List.mem_append_right _ (List.mem_append_right _ (List.mem_of_getElem? (i := 178) rfl))) rfl
theorem bw_se_X1_get : .selects RX1 yX1_get yX1_get ∈ wb := wb_mem (List.mem_append_right _ (List.mem_append_right _ (List.mem_of_getElem? (i := 179) rfl))) rfl
theorem bw_co_X1_get : .code yX1_get cX1_get 3 (some .long) ∈ wb := wb_mem (List.mem_append_right _ (List.mem_append_right _ (List.mem_of_getElem? (i := 180) rfl))) rfl
theorem bw_ml_L_97 : .methodLink RL 97 yX1_state ∈ wb := wb_mem (List.mem_append_right _ (List.mem_append_right _ (List.mem_of_getElem? (i := 181) rfl))) rfl
theorem bw_im_X1_state : .instanceMethod yX1_state ∈ wb := wb_mem (List.mem_append_right _ (List.mem_append_right _ (List.mem_of_getElem? (i := 182) rfl))) rfl
theorem bw_se_X1_state : .selects RX1 yX1_state yX1_state ∈ wb := wb_mem (List.mem_append_right _ (List.mem_append_right _ (List.mem_of_getElem? (i := 183) rfl))) rfl
theorem bw_co_X1_state : .code yX1_state cX1_state 4 (some .int) ∈ wb := wb_mem (List.mem_append_right _ (List.mem_append_right _ (List.mem_of_getElem? (i := 184) rfl))) rfl
theorem bw_ml_L_102 : .methodLink RL 102 yX1_count ∈ wb := wb_mem (List.mem_append_right _ (List.mem_append_right _ (List.mem_of_getElem? (i := 185) rfl))) rfl
theorem bw_im_X1_count : .instanceMethod yX1_count ∈ wb := wb_mem (List.mem_append_right _ (List.mem_append_right _ (List.mem_of_getElem? (i := 186) rfl))) rfl
theorem bw_se_X1_count : .selects RX1 yX1_count yX1_count ∈ wb := wb_mem (List.mem_append_right _ (List.mem_append_right _ (List.mem_of_getElem? (i := 187) rfl))) rfl
theorem bw_co_X1_count : .code yX1_count cX1_count 2 (some .int) ∈ wb := wb_mem (List.mem_append_right _ (List.mem_append_right _ (List.mem_of_getElem? (i := 188) rfl))) rfl
theorem bw_kl_L_82 : .constantLong RL 82 (4294967295) ∈ wb := wb_mem (List.mem_append_right _ (List.mem_append_right _ (List.mem_of_getElem? (i := 189) rfl))) rfl
theorem inX0 : ∀ w ∈ u_ws RX0 TX0 8, w ∈ wb := List.forall_mem_cons.mpr ⟨bw_ly_X0_cells, List.forall_mem_cons.mpr ⟨bw_ly_X0_registers, List.forall_mem_cons.mpr ⟨bw_ly_X0_taken, List.forall_mem_cons.mpr ⟨bw_ly_X0_objects, List.forall_mem_cons.mpr ⟨bw_ly_X0_collections, List.forall_mem_cons.mpr ⟨bw_ly_X0_reached, List.forall_mem_cons.mpr ⟨bw_ly_X0_reachedCount, List.forall_mem_cons.mpr ⟨bw_ly_X0_newPlaces, fun _ h => absurd h List.not_mem_nil⟩⟩⟩⟩⟩⟩⟩⟩
theorem inX1 : ∀ w ∈ u_ws RX1 TX1 12, w ∈ wb := List.forall_mem_cons.mpr ⟨bw_ly_X1_thrown, List.forall_mem_cons.mpr ⟨bw_ly_X1_kind, List.forall_mem_cons.mpr ⟨bw_ly_X1_size, List.forall_mem_cons.mpr ⟨bw_ly_X1_order, List.forall_mem_cons.mpr ⟨bw_ly_X1_link, List.forall_mem_cons.mpr ⟨bw_ly_X1_number, List.forall_mem_cons.mpr ⟨bw_ly_X1_reached, List.forall_mem_cons.mpr ⟨bw_ly_X1_register, List.forall_mem_cons.mpr ⟨bw_ly_X1_todo, List.forall_mem_cons.mpr ⟨bw_ly_X1_objects, List.forall_mem_cons.mpr ⟨bw_ly_X1_collected, List.forall_mem_cons.mpr ⟨bw_ly_X1_tops, fun _ h => absurd h List.not_mem_nil⟩⟩⟩⟩⟩⟩⟩⟩⟩⟩⟩⟩
abbrev wsX0_init : List Cond := .code yX0_init cX0_init 1 none :: wb
abbrev wsX0_make : List Cond := .code yX0_make cX0_make 8 (some .int) :: wb
abbrev wsX0_weak : List Cond := .code yX0_weak cX0_weak 4 (some .int) :: wb
abbrev wsX0_copy : List Cond := .code yX0_copy cX0_copy 3 none :: wb
abbrev wsX0_drop : List Cond := .code yX0_drop cX0_drop 2 none :: wb
abbrev wsX0_link : List Cond := .code yX0_link cX0_link 5 none :: wb
abbrev wsX0_follow : List Cond := .code yX0_follow cX0_follow 5 none :: wb
abbrev wsX0_put : List Cond := .code yX0_put cX0_put 5 none :: wb
abbrev wsX0_get : List Cond := .code yX0_get cX0_get 3 (some .long) :: wb
abbrev wsX0_collect : List Cond := .code yX0_collect cX0_collect 2 (some .int) :: wb
abbrev wsX0_state : List Cond := .code yX0_state cX0_state 4 (some .int) :: wb
abbrev wsX0_count : List Cond := .code yX0_count cX0_count 2 (some .int) :: wb
abbrev wsX0_checkRegister : List Cond := .code yX0_checkRegister cX0_checkRegister 1 none :: wb
abbrev wsX0_checkBelow : List Cond := .code yX0_checkBelow cX0_checkBelow 2 none :: wb
abbrev wsX0_checkKind : List Cond := .code yX0_checkKind cX0_checkKind 1 none :: wb
abbrev wsX0_checkNotNull : List Cond := .code yX0_checkNotNull cX0_checkNotNull 1 none :: wb
abbrev wsX0_numberCell : List Cond := .code yX0_numberCell cX0_numberCell 4 (some .int) :: wb
abbrev wsX0_kindAt : List Cond := .code yX0_kindAt cX0_kindAt 2 (some .int) :: wb
abbrev wsX0_lengthAt : List Cond := .code yX0_lengthAt cX0_lengthAt 2 (some .int) :: wb
abbrev wsX0_sizeAt : List Cond := .code yX0_sizeAt cX0_sizeAt 2 (some .int) :: wb
abbrev wsX0_takeCells : List Cond := .code yX0_takeCells cX0_takeCells 4 (some .int) :: wb
abbrev wsX0_hasRoom : List Cond := .code yX0_hasRoom cX0_hasRoom 2 (some .boolean) :: wb
abbrev wsX0_pressTogether : List Cond := .code yX0_pressTogether cX0_pressTogether 2 none :: wb
abbrev wsX0_findReached : List Cond := .code yX0_findReached cX0_findReached 2 none :: wb
abbrev wsX0_noteContents : List Cond := .code yX0_noteContents cX0_noteContents 4 none :: wb
abbrev wsX0_noteReached : List Cond := .code yX0_noteReached cX0_noteReached 2 none :: wb
abbrev wsX0_planNewPlaces : List Cond := .code yX0_planNewPlaces cX0_planNewPlaces 5 (some .int) :: wb
abbrev wsX0_redirectRegisters : List Cond := .code yX0_redirectRegisters cX0_redirectRegisters 2 none :: wb
abbrev wsX0_redirectContents : List Cond := .code yX0_redirectContents cX0_redirectContents 3 none :: wb
abbrev wsX0_redirectContentsAt : List Cond := .code yX0_redirectContentsAt cX0_redirectContentsAt 4 none :: wb
abbrev wsX0_newPlaceOf : List Cond := .code yX0_newPlaceOf cX0_newPlaceOf 2 (some .int) :: wb
abbrev wsX0_moveDown : List Cond := .code yX0_moveDown cX0_moveDown 4 none :: wb
abbrev wsX1_init : List Cond := .code yX1_init cX1_init 1 none :: wb
abbrev wsX1_thrown : List Cond := .code yX1_thrown cX1_thrown 1 (some .int) :: wb
abbrev wsX1_isRegister : List Cond := .code yX1_isRegister cX1_isRegister 2 (some .boolean) :: wb
abbrev wsX1_cellsOf : List Cond := .code yX1_cellsOf cX1_cellsOf 2 (some .int) :: wb
abbrev wsX1_cells : List Cond := .code yX1_cells cX1_cells 3 (some .int) :: wb
abbrev wsX1_placeOf : List Cond := .code yX1_placeOf cX1_placeOf 4 (some .int) :: wb
abbrev wsX1_reach : List Cond := .code yX1_reach cX1_reach 2 none :: wb
abbrev wsX1_collect : List Cond := .code yX1_collect cX1_collect 5 (some .int) :: wb
abbrev wsX1_made : List Cond := .code yX1_made cX1_made 6 (some .int) :: wb
abbrev wsX1_make : List Cond := .code yX1_make cX1_make 5 (some .int) :: wb
abbrev wsX1_weak : List Cond := .code yX1_weak cX1_weak 4 (some .int) :: wb
abbrev wsX1_copy : List Cond := .code yX1_copy cX1_copy 3 none :: wb
abbrev wsX1_drop : List Cond := .code yX1_drop cX1_drop 2 none :: wb
abbrev wsX1_isWrong : List Cond := .code yX1_isWrong cX1_isWrong 4 (some .boolean) :: wb
abbrev wsX1_link : List Cond := .code yX1_link cX1_link 4 none :: wb
abbrev wsX1_follow : List Cond := .code yX1_follow cX1_follow 4 none :: wb
abbrev wsX1_fails : List Cond := .code yX1_fails cX1_fails 3 (some .boolean) :: wb
abbrev wsX1_put : List Cond := .code yX1_put cX1_put 5 none :: wb
abbrev wsX1_get : List Cond := .code yX1_get cX1_get 3 (some .long) :: wb
abbrev wsX1_state : List Cond := .code yX1_state cX1_state 4 (some .int) :: wb
abbrev wsX1_count : List Cond := .code yX1_count cX1_count 2 (some .int) :: wb
abbrev wsL_make : List Cond := .codeWith yL_make cL_make 6 (some .int) [(0, 12, 15, 13), (0, 12, 19, 15)] :: wb
abbrev wsL_weak : List Cond := .codeWith yL_weak cL_weak 5 (some .int) [(0, 10, 13, 13), (0, 10, 17, 15), (0, 10, 21, 21)] :: wb
abbrev wsL_copy : List Cond := .codeWith yL_copy cL_copy 4 (some .int) [(0, 6, 9, 13)] :: wb
abbrev wsL_drop : List Cond := .codeWith yL_drop cL_drop 3 (some .int) [(0, 5, 8, 13)] :: wb
abbrev wsL_link : List Cond := .codeWith yL_link cL_link 5 (some .int) [(0, 7, 10, 13), (0, 7, 14, 21)] :: wb
abbrev wsL_follow : List Cond := .codeWith yL_follow cL_follow 5 (some .int) [(0, 7, 10, 13), (0, 7, 14, 21)] :: wb
abbrev wsL_put : List Cond := .codeWith yL_put cL_put 6 (some .int) [(0, 7, 10, 13), (0, 7, 14, 21)] :: wb
abbrev wsL_get : List Cond := .codeWith yL_get cL_get 5 (some .int) [(0, 9, 12, 13), (0, 9, 16, 21)] :: wb
abbrev wsL_state : List Cond := .codeWith yL_state cL_state 5 (some .int) [(0, 10, 13, 13)] :: wb
abbrev wsJ7_fill : List Cond := .code yJ7_fill cJ7_fill 4 none :: wb
theorem gw_L_7 : GoodIn wb (wsV RL 7 RX0 yX0_make wsX0_make) := wb_V bw_ml_L_7 bw_im_X0_make bw_se_X0_make bw_in_HeapPress bw_co_X0_make
theorem gw_L_17 : GoodIn wb (wsV RL 17 RX0 yX0_weak wsX0_weak) := wb_V bw_ml_L_17 bw_im_X0_weak bw_se_X0_weak bw_in_HeapPress bw_co_X0_weak
theorem gw_L_23 : GoodIn wb (wsV RL 23 RX0 yX0_copy wsX0_copy) := wb_V bw_ml_L_23 bw_im_X0_copy bw_se_X0_copy bw_in_HeapPress bw_co_X0_copy
theorem gw_L_27 : GoodIn wb (wsV RL 27 RX0 yX0_drop wsX0_drop) := wb_V bw_ml_L_27 bw_im_X0_drop bw_se_X0_drop bw_in_HeapPress bw_co_X0_drop
theorem gw_L_31 : GoodIn wb (wsV RL 31 RX0 yX0_link wsX0_link) := wb_V bw_ml_L_31 bw_im_X0_link bw_se_X0_link bw_in_HeapPress bw_co_X0_link
theorem gw_L_35 : GoodIn wb (wsV RL 35 RX0 yX0_follow wsX0_follow) := wb_V bw_ml_L_35 bw_im_X0_follow bw_se_X0_follow bw_in_HeapPress bw_co_X0_follow
theorem gw_L_38 : GoodIn wb (wsV RL 38 RX0 yX0_put wsX0_put) := wb_V bw_ml_L_38 bw_im_X0_put bw_se_X0_put bw_in_HeapPress bw_co_X0_put
theorem gw_L_42 : GoodIn wb (wsV RL 42 RX0 yX0_get wsX0_get) := wb_V bw_ml_L_42 bw_im_X0_get bw_se_X0_get bw_in_HeapPress bw_co_X0_get
theorem gw_L_46 : GoodIn wb (wsV RL 46 RX0 yX0_state wsX0_state) := wb_V bw_ml_L_46 bw_im_X0_state bw_se_X0_state bw_in_HeapPress bw_co_X0_state
theorem gw_L_49 : GoodIn wb wsX0_init := fun w h => wb_good w ((List.mem_cons.mp h).elim (fun e => e ▸ bw_co_X0_init) id)
theorem gw_L_52 : GoodIn wb wsX1_init := fun w h => wb_good w ((List.mem_cons.mp h).elim (fun e => e ▸ bw_co_X1_init) id)
theorem gw_L_53 : GoodIn wb (va_wsS RL 53 yL_make wsL_make) := wb_S bw_ml_L_53 bw_st_L_make bw_in_HeapPressLaw bw_co_L_make
theorem gw_L_58 : GoodIn wb (wsV RL 58 RX1 yX1_make wsX1_make) := wb_V bw_ml_L_58 bw_im_X1_make bw_se_X1_make bw_in_HeapPressModel bw_co_X1_make
theorem gw_L_59 : GoodIn wb (wsV RL 59 RX1 yX1_thrown wsX1_thrown) := wb_V bw_ml_L_59 bw_im_X1_thrown bw_se_X1_thrown bw_in_HeapPressModel bw_co_X1_thrown
theorem gw_L_63 : GoodIn wb (va_wsS RL 63 yL_weak wsL_weak) := wb_S bw_ml_L_63 bw_st_L_weak bw_in_HeapPressLaw bw_co_L_weak
theorem gw_L_66 : GoodIn wb (wsV RL 66 RX1 yX1_weak wsX1_weak) := wb_V bw_ml_L_66 bw_im_X1_weak bw_se_X1_weak bw_in_HeapPressModel bw_co_X1_weak
theorem gw_L_67 : GoodIn wb (va_wsS RL 67 yL_copy wsL_copy) := wb_S bw_ml_L_67 bw_st_L_copy bw_in_HeapPressLaw bw_co_L_copy
theorem gw_L_70 : GoodIn wb (wsV RL 70 RX1 yX1_copy wsX1_copy) := wb_V bw_ml_L_70 bw_im_X1_copy bw_se_X1_copy bw_in_HeapPressModel bw_co_X1_copy
theorem gw_L_71 : GoodIn wb (va_wsS RL 71 yL_drop wsL_drop) := wb_S bw_ml_L_71 bw_st_L_drop bw_in_HeapPressLaw bw_co_L_drop
theorem gw_L_74 : GoodIn wb (wsV RL 74 RX1 yX1_drop wsX1_drop) := wb_V bw_ml_L_74 bw_im_X1_drop bw_se_X1_drop bw_in_HeapPressModel bw_co_X1_drop
theorem gw_L_75 : GoodIn wb (va_wsS RL 75 yL_link wsL_link) := wb_S bw_ml_L_75 bw_st_L_link bw_in_HeapPressLaw bw_co_L_link
theorem gw_L_78 : GoodIn wb (wsV RL 78 RX1 yX1_link wsX1_link) := wb_V bw_ml_L_78 bw_im_X1_link bw_se_X1_link bw_in_HeapPressModel bw_co_X1_link
theorem gw_L_79 : GoodIn wb (va_wsS RL 79 yL_follow wsL_follow) := wb_S bw_ml_L_79 bw_st_L_follow bw_in_HeapPressLaw bw_co_L_follow
theorem gw_L_81 : GoodIn wb (wsV RL 81 RX1 yX1_follow wsX1_follow) := wb_V bw_ml_L_81 bw_im_X1_follow bw_se_X1_follow bw_in_HeapPressModel bw_co_X1_follow
theorem gw_L_84 : GoodIn wb (va_wsS RL 84 yL_put wsL_put) := wb_S bw_ml_L_84 bw_st_L_put bw_in_HeapPressLaw bw_co_L_put
theorem gw_L_87 : GoodIn wb (wsV RL 87 RX1 yX1_put wsX1_put) := wb_V bw_ml_L_87 bw_im_X1_put bw_se_X1_put bw_in_HeapPressModel bw_co_X1_put
theorem gw_L_88 : GoodIn wb (va_wsS RL 88 yL_get wsL_get) := wb_S bw_ml_L_88 bw_st_L_get bw_in_HeapPressLaw bw_co_L_get
theorem gw_L_90 : GoodIn wb (wsV RL 90 RX1 yX1_get wsX1_get) := wb_V bw_ml_L_90 bw_im_X1_get bw_se_X1_get bw_in_HeapPressModel bw_co_X1_get
theorem gw_L_91 : GoodIn wb (wsV RL 91 RX0 yX0_collect wsX0_collect) := wb_V bw_ml_L_91 bw_im_X0_collect bw_se_X0_collect bw_in_HeapPress bw_co_X0_collect
theorem gw_L_94 : GoodIn wb (wsV RL 94 RX1 yX1_collect wsX1_collect) := wb_V bw_ml_L_94 bw_im_X1_collect bw_se_X1_collect bw_in_HeapPressModel bw_co_X1_collect
theorem gw_L_95 : GoodIn wb (va_wsS RL 95 yL_state wsL_state) := wb_S bw_ml_L_95 bw_st_L_state bw_in_HeapPressLaw bw_co_L_state
theorem gw_L_97 : GoodIn wb (wsV RL 97 RX1 yX1_state wsX1_state) := wb_V bw_ml_L_97 bw_im_X1_state bw_se_X1_state bw_in_HeapPressModel bw_co_X1_state
theorem gw_L_98 : GoodIn wb (wsV RL 98 RX0 yX0_count wsX0_count) := wb_V bw_ml_L_98 bw_im_X0_count bw_se_X0_count bw_in_HeapPress bw_co_X0_count
theorem gw_L_102 : GoodIn wb (wsV RL 102 RX1 yX1_count wsX1_count) := wb_V bw_ml_L_102 bw_im_X1_count bw_se_X1_count bw_in_HeapPressModel bw_co_X1_count
theorem gw_X0_36 : GoodIn wb (va_wsS RX0 36 yJ7_fill wsJ7_fill) := wb_S bw_ml_X0_36 bw_st_J7_fill bw_in_java_util_Arrays bw_co_J7_fill
theorem gw_X0_42 : GoodIn wb (va_wsS RX0 42 yX0_checkRegister wsX0_checkRegister) := wb_S bw_ml_X0_42 bw_st_X0_checkRegister bw_in_HeapPress bw_co_X0_checkRegister
theorem gw_X0_46 : GoodIn wb (va_wsS RX0 46 yX0_checkBelow wsX0_checkBelow) := wb_S bw_ml_X0_46 bw_st_X0_checkBelow bw_in_HeapPress bw_co_X0_checkBelow
theorem gw_X0_50 : GoodIn wb (wsV RX0 50 RX0 yX0_takeCells wsX0_takeCells) := wb_V bw_ml_X0_50 bw_im_X0_takeCells bw_se_X0_takeCells bw_in_HeapPress bw_co_X0_takeCells
theorem gw_X0_56 : GoodIn wb (va_wsS RX0 56 yX0_checkNotNull wsX0_checkNotNull) := wb_S bw_ml_X0_56 bw_st_X0_checkNotNull bw_in_HeapPress bw_co_X0_checkNotNull
theorem gw_X0_59 : GoodIn wb (wsV RX0 59 RX0 yX0_kindAt wsX0_kindAt) := wb_V bw_ml_X0_59 bw_im_X0_kindAt bw_se_X0_kindAt bw_in_HeapPress bw_co_X0_kindAt
theorem gw_X0_63 : GoodIn wb (va_wsS RX0 63 yX0_checkKind wsX0_checkKind) := wb_S bw_ml_X0_63 bw_st_X0_checkKind bw_in_HeapPress bw_co_X0_checkKind
theorem gw_X0_67 : GoodIn wb (wsV RX0 67 RX0 yX0_lengthAt wsX0_lengthAt) := wb_V bw_ml_X0_67 bw_im_X0_lengthAt bw_se_X0_lengthAt bw_in_HeapPress bw_co_X0_lengthAt
theorem gw_X0_70 : GoodIn wb (wsV RX0 70 RX0 yX0_numberCell wsX0_numberCell) := wb_V bw_ml_X0_70 bw_im_X0_numberCell bw_se_X0_numberCell bw_in_HeapPress bw_co_X0_numberCell
theorem gw_X0_73 : GoodIn wb (wsV RX0 73 RX0 yX0_pressTogether wsX0_pressTogether) := wb_V bw_ml_X0_73 bw_im_X0_pressTogether bw_se_X0_pressTogether bw_in_HeapPress bw_co_X0_pressTogether
theorem gw_X0_90 : GoodIn wb (wsV RX0 90 RX0 yX0_hasRoom wsX0_hasRoom) := wb_V bw_ml_X0_90 bw_im_X0_hasRoom bw_se_X0_hasRoom bw_in_HeapPress bw_co_X0_hasRoom
theorem gw_X0_99 : GoodIn wb (wsV RX0 99 RX0 yX0_findReached wsX0_findReached) := wb_V bw_ml_X0_99 bw_im_X0_findReached bw_se_X0_findReached bw_in_HeapPress bw_co_X0_findReached
theorem gw_X0_102 : GoodIn wb (wsV RX0 102 RX0 yX0_planNewPlaces wsX0_planNewPlaces) := wb_V bw_ml_X0_102 bw_im_X0_planNewPlaces bw_se_X0_planNewPlaces bw_in_HeapPress bw_co_X0_planNewPlaces
theorem gw_X0_106 : GoodIn wb (wsV RX0 106 RX0 yX0_redirectRegisters wsX0_redirectRegisters) := wb_V bw_ml_X0_106 bw_im_X0_redirectRegisters bw_se_X0_redirectRegisters bw_in_HeapPress bw_co_X0_redirectRegisters
theorem gw_X0_109 : GoodIn wb (wsV RX0 109 RX0 yX0_redirectContents wsX0_redirectContents) := wb_V bw_ml_X0_109 bw_im_X0_redirectContents bw_se_X0_redirectContents bw_in_HeapPress bw_co_X0_redirectContents
theorem gw_X0_112 : GoodIn wb (wsV RX0 112 RX0 yX0_moveDown wsX0_moveDown) := wb_V bw_ml_X0_112 bw_im_X0_moveDown bw_se_X0_moveDown bw_in_HeapPress bw_co_X0_moveDown
theorem gw_X0_115 : GoodIn wb (wsV RX0 115 RX0 yX0_noteReached wsX0_noteReached) := wb_V bw_ml_X0_115 bw_im_X0_noteReached bw_se_X0_noteReached bw_in_HeapPress bw_co_X0_noteReached
theorem gw_X0_118 : GoodIn wb (wsV RX0 118 RX0 yX0_noteContents wsX0_noteContents) := wb_V bw_ml_X0_118 bw_im_X0_noteContents bw_se_X0_noteContents bw_in_HeapPress bw_co_X0_noteContents
theorem gw_X0_121 : GoodIn wb (wsV RX0 121 RX0 yX0_sizeAt wsX0_sizeAt) := wb_V bw_ml_X0_121 bw_im_X0_sizeAt bw_se_X0_sizeAt bw_in_HeapPress bw_co_X0_sizeAt
theorem gw_X0_124 : GoodIn wb (wsV RX0 124 RX0 yX0_newPlaceOf wsX0_newPlaceOf) := wb_V bw_ml_X0_124 bw_im_X0_newPlaceOf bw_se_X0_newPlaceOf bw_in_HeapPress bw_co_X0_newPlaceOf
theorem gw_X0_127 : GoodIn wb (wsV RX0 127 RX0 yX0_redirectContentsAt wsX0_redirectContentsAt) := wb_V bw_ml_X0_127 bw_im_X0_redirectContentsAt bw_se_X0_redirectContentsAt bw_in_HeapPress bw_co_X0_redirectContentsAt
theorem gw_X1_43 : GoodIn wb (wsV RX1 43 RX1 yX1_cellsOf wsX1_cellsOf) := wb_V bw_ml_X1_43 bw_im_X1_cellsOf bw_se_X1_cellsOf bw_in_HeapPressModel bw_co_X1_cellsOf
theorem gw_X1_53 : GoodIn wb (wsV RX1 53 RX1 yX1_reach wsX1_reach) := wb_V bw_ml_X1_53 bw_im_X1_reach bw_se_X1_reach bw_in_HeapPressModel bw_co_X1_reach
theorem gw_X1_57 : GoodIn wb (wsV RX1 57 RX1 yX1_cells wsX1_cells) := wb_V bw_ml_X1_57 bw_im_X1_cells bw_se_X1_cells bw_in_HeapPressModel bw_co_X1_cells
theorem gw_X1_61 : GoodIn wb (wsV RX1 61 RX1 yX1_collect wsX1_collect) := wb_V bw_ml_X1_61 bw_im_X1_collect bw_se_X1_collect bw_in_HeapPressModel bw_co_X1_collect
theorem gw_X1_64 : GoodIn wb (wsV RX1 64 RX1 yX1_isRegister wsX1_isRegister) := wb_V bw_ml_X1_64 bw_im_X1_isRegister bw_se_X1_isRegister bw_in_HeapPressModel bw_co_X1_isRegister
theorem gw_X1_68 : GoodIn wb (wsV RX1 68 RX1 yX1_made wsX1_made) := wb_V bw_ml_X1_68 bw_im_X1_made bw_se_X1_made bw_in_HeapPressModel bw_co_X1_made
theorem gw_X1_72 : GoodIn wb (wsV RX1 72 RX1 yX1_placeOf wsX1_placeOf) := wb_V bw_ml_X1_72 bw_im_X1_placeOf bw_se_X1_placeOf bw_in_HeapPressModel bw_co_X1_placeOf
theorem gw_X1_75 : GoodIn wb (wsV RX1 75 RX1 yX1_isWrong wsX1_isWrong) := wb_V bw_ml_X1_75 bw_im_X1_isWrong bw_se_X1_isWrong bw_in_HeapPressModel bw_co_X1_isWrong
theorem gw_X1_79 : GoodIn wb (wsV RX1 79 RX1 yX1_fails wsX1_fails) := wb_V bw_ml_X1_79 bw_im_X1_fails bw_se_X1_fails bw_in_HeapPressModel bw_co_X1_fails
end
section
theorem dX0_init_0 : decode cX0_init 0 = .ok (.aload_n 0, 1) := by decide +kernel
theorem dX0_init_1 : decode cX0_init 1 = .ok (.invokespecial 1, 3) := by decide +kernel
theorem dX0_init_4 : decode cX0_init 4 = .ok (.aload_n 0, 1) := by decide +kernel
theorem dX0_init_5 : decode cX0_init 5 = .ok (.sipush 300, 3) := by decide +kernel
theorem dX0_init_8 : decode cX0_init 8 = .ok (.newarray .long, 2) := by decide +kernel
theorem dX0_init_10 : decode cX0_init 10 = .ok (.putfield 9, 3) := by decide +kernel
theorem dX0_init_13 : decode cX0_init 13 = .ok (.aload_n 0, 1) := by decide +kernel
theorem dX0_init_14 : decode cX0_init 14 = .ok (.bipush 16, 2) := by decide +kernel
theorem dX0_init_16 : decode cX0_init 16 = .ok (.newarray .int, 2) := by decide +kernel
theorem dX0_init_18 : decode cX0_init 18 = .ok (.putfield 13, 3) := by decide +kernel
theorem dX0_init_21 : decode cX0_init 21 = .ok (.aload_n 0, 1) := by decide +kernel
theorem dX0_init_22 : decode cX0_init 22 = .ok (.iconst 0, 1) := by decide +kernel
theorem dX0_init_23 : decode cX0_init 23 = .ok (.putfield 17, 3) := by decide +kernel
theorem dX0_init_26 : decode cX0_init 26 = .ok (.aload_n 0, 1) := by decide +kernel
theorem dX0_init_27 : decode cX0_init 27 = .ok (.iconst 0, 1) := by decide +kernel
theorem dX0_init_28 : decode cX0_init 28 = .ok (.putfield 21, 3) := by decide +kernel
theorem dX0_init_31 : decode cX0_init 31 = .ok (.aload_n 0, 1) := by decide +kernel
theorem dX0_init_32 : decode cX0_init 32 = .ok (.iconst 0, 1) := by decide +kernel
theorem dX0_init_33 : decode cX0_init 33 = .ok (.putfield 24, 3) := by decide +kernel
theorem dX0_init_36 : decode cX0_init 36 = .ok (.aload_n 0, 1) := by decide +kernel
theorem dX0_init_37 : decode cX0_init 37 = .ok (.sipush 300, 3) := by decide +kernel
theorem dX0_init_40 : decode cX0_init 40 = .ok (.newarray .int, 2) := by decide +kernel
theorem dX0_init_42 : decode cX0_init 42 = .ok (.putfield 27, 3) := by decide +kernel
theorem dX0_init_45 : decode cX0_init 45 = .ok (.aload_n 0, 1) := by decide +kernel
theorem dX0_init_46 : decode cX0_init 46 = .ok (.iconst 0, 1) := by decide +kernel
theorem dX0_init_47 : decode cX0_init 47 = .ok (.putfield 30, 3) := by decide +kernel
theorem dX0_init_50 : decode cX0_init 50 = .ok (.aload_n 0, 1) := by decide +kernel
theorem dX0_init_51 : decode cX0_init 51 = .ok (.sipush 300, 3) := by decide +kernel
theorem dX0_init_54 : decode cX0_init 54 = .ok (.newarray .int, 2) := by decide +kernel
theorem dX0_init_56 : decode cX0_init 56 = .ok (.putfield 33, 3) := by decide +kernel
theorem dX0_init_59 : decode cX0_init 59 = .ok (.aload_n 0, 1) := by decide +kernel
theorem dX0_init_60 : decode cX0_init 60 = .ok (.getfield 13, 3) := by decide +kernel
theorem dX0_init_63 : decode cX0_init 63 = .ok (.iconst (-1), 1) := by decide +kernel
theorem dX0_init_64 : decode cX0_init 64 = .ok (.invokestatic 36, 3) := by decide +kernel
theorem dX0_init_67 : decode cX0_init 67 = .ok (.return_, 1) := by decide +kernel
theorem dX0_make_0 : decode cX0_make 0 = .ok (.iload_n 1, 1) := by decide +kernel
theorem dX0_make_1 : decode cX0_make 1 = .ok (.invokestatic 42, 3) := by decide +kernel
theorem dX0_make_4 : decode cX0_make 4 = .ok (.iload_n 3, 1) := by decide +kernel
theorem dX0_make_5 : decode cX0_make 5 = .ok (.bipush 41, 2) := by decide +kernel
theorem dX0_make_7 : decode cX0_make 7 = .ok (.invokestatic 46, 3) := by decide +kernel
theorem dX0_make_10 : decode cX0_make 10 = .ok (.aload_n 0, 1) := by decide +kernel
theorem dX0_make_11 : decode cX0_make 11 = .ok (.iload_n 2, 1) := by decide +kernel
theorem dX0_make_12 : decode cX0_make 12 = .ok (.ifCond .eq 7, 3) := by decide +kernel
theorem dX0_make_15 : decode cX0_make 15 = .ok (.iconst 1, 1) := by decide +kernel
theorem dX0_make_16 : decode cX0_make 16 = .ok (.goto 4, 3) := by decide +kernel
theorem dX0_make_19 : decode cX0_make 19 = .ok (.iconst 2, 1) := by decide +kernel
theorem dX0_make_20 : decode cX0_make 20 = .ok (.iload_n 3, 1) := by decide +kernel
theorem dX0_make_21 : decode cX0_make 21 = .ok (.invokevirtual 50, 3) := by decide +kernel
theorem dX0_make_24 : decode cX0_make 24 = .ok (.istore 4, 2) := by decide +kernel
theorem dX0_make_26 : decode cX0_make 26 = .ok (.iload_n 2, 1) := by decide +kernel
theorem dX0_make_27 : decode cX0_make 27 = .ok (.ifCond .eq 9, 3) := by decide +kernel
theorem dX0_make_30 : decode cX0_make 30 = .ok (.ldc2_w 54, 3) := by decide +kernel
theorem dX0_make_33 : decode cX0_make 33 = .ok (.goto 4, 3) := by decide +kernel
theorem dX0_make_36 : decode cX0_make 36 = .ok (.lconst 0, 1) := by decide +kernel
theorem dX0_make_37 : decode cX0_make 37 = .ok (.lstore 5, 2) := by decide +kernel
theorem dX0_make_39 : decode cX0_make 39 = .ok (.iconst 0, 1) := by decide +kernel
theorem dX0_make_40 : decode cX0_make 40 = .ok (.istore 7, 2) := by decide +kernel
theorem dX0_make_42 : decode cX0_make 42 = .ok (.iload 7, 2) := by decide +kernel
theorem dX0_make_44 : decode cX0_make 44 = .ok (.iload_n 3, 1) := by decide +kernel
theorem dX0_make_45 : decode cX0_make 45 = .ok (.if_icmp .ge 23, 3) := by decide +kernel
theorem dX0_make_48 : decode cX0_make 48 = .ok (.aload_n 0, 1) := by decide +kernel
theorem dX0_make_49 : decode cX0_make 49 = .ok (.getfield 9, 3) := by decide +kernel
theorem dX0_make_52 : decode cX0_make 52 = .ok (.iload 4, 2) := by decide +kernel
theorem dX0_make_54 : decode cX0_make 54 = .ok (.iconst 1, 1) := by decide +kernel
theorem dX0_make_55 : decode cX0_make 55 = .ok (.iadd, 1) := by decide +kernel
theorem dX0_make_56 : decode cX0_make 56 = .ok (.iload 7, 2) := by decide +kernel
theorem dX0_make_58 : decode cX0_make 58 = .ok (.iadd, 1) := by decide +kernel
theorem dX0_make_59 : decode cX0_make 59 = .ok (.lload 5, 2) := by decide +kernel
theorem dX0_make_61 : decode cX0_make 61 = .ok (.lastore, 1) := by decide +kernel
theorem dX0_make_62 : decode cX0_make 62 = .ok (.iinc 7 1, 3) := by decide +kernel
theorem dX0_make_65 : decode cX0_make 65 = .ok (.goto (-23), 3) := by decide +kernel
theorem dX0_make_68 : decode cX0_make 68 = .ok (.aload_n 0, 1) := by decide +kernel
theorem dX0_make_69 : decode cX0_make 69 = .ok (.getfield 13, 3) := by decide +kernel
theorem dX0_make_72 : decode cX0_make 72 = .ok (.iload_n 1, 1) := by decide +kernel
theorem dX0_make_73 : decode cX0_make 73 = .ok (.iload 4, 2) := by decide +kernel
theorem dX0_make_75 : decode cX0_make 75 = .ok (.iastore, 1) := by decide +kernel
theorem dX0_make_76 : decode cX0_make 76 = .ok (.iload 4, 2) := by decide +kernel
theorem dX0_make_78 : decode cX0_make 78 = .ok (.ireturn, 1) := by decide +kernel
theorem dX0_weak_0 : decode cX0_weak 0 = .ok (.iload_n 1, 1) := by decide +kernel
theorem dX0_weak_1 : decode cX0_weak 1 = .ok (.invokestatic 42, 3) := by decide +kernel
theorem dX0_weak_4 : decode cX0_weak 4 = .ok (.iload_n 2, 1) := by decide +kernel
theorem dX0_weak_5 : decode cX0_weak 5 = .ok (.invokestatic 42, 3) := by decide +kernel
theorem dX0_weak_8 : decode cX0_weak 8 = .ok (.aload_n 0, 1) := by decide +kernel
theorem dX0_weak_9 : decode cX0_weak 9 = .ok (.getfield 13, 3) := by decide +kernel
theorem dX0_weak_12 : decode cX0_weak 12 = .ok (.iload_n 2, 1) := by decide +kernel
theorem dX0_weak_13 : decode cX0_weak 13 = .ok (.iaload, 1) := by decide +kernel
theorem dX0_weak_14 : decode cX0_weak 14 = .ok (.invokestatic 56, 3) := by decide +kernel
theorem dX0_weak_17 : decode cX0_weak 17 = .ok (.aload_n 0, 1) := by decide +kernel
theorem dX0_weak_18 : decode cX0_weak 18 = .ok (.iconst 3, 1) := by decide +kernel
theorem dX0_weak_19 : decode cX0_weak 19 = .ok (.iconst 1, 1) := by decide +kernel
theorem dX0_weak_20 : decode cX0_weak 20 = .ok (.invokevirtual 50, 3) := by decide +kernel
theorem dX0_weak_23 : decode cX0_weak 23 = .ok (.istore_n 3, 1) := by decide +kernel
theorem dX0_weak_24 : decode cX0_weak 24 = .ok (.aload_n 0, 1) := by decide +kernel
theorem dX0_weak_25 : decode cX0_weak 25 = .ok (.getfield 9, 3) := by decide +kernel
theorem dX0_weak_28 : decode cX0_weak 28 = .ok (.iload_n 3, 1) := by decide +kernel
theorem dX0_weak_29 : decode cX0_weak 29 = .ok (.iconst 1, 1) := by decide +kernel
theorem dX0_weak_30 : decode cX0_weak 30 = .ok (.iadd, 1) := by decide +kernel
theorem dX0_weak_31 : decode cX0_weak 31 = .ok (.aload_n 0, 1) := by decide +kernel
theorem dX0_weak_32 : decode cX0_weak 32 = .ok (.getfield 13, 3) := by decide +kernel
theorem dX0_weak_35 : decode cX0_weak 35 = .ok (.iload_n 2, 1) := by decide +kernel
theorem dX0_weak_36 : decode cX0_weak 36 = .ok (.iaload, 1) := by decide +kernel
theorem dX0_weak_37 : decode cX0_weak 37 = .ok (.i2l, 1) := by decide +kernel
theorem dX0_weak_38 : decode cX0_weak 38 = .ok (.lastore, 1) := by decide +kernel
theorem dX0_weak_39 : decode cX0_weak 39 = .ok (.aload_n 0, 1) := by decide +kernel
theorem dX0_weak_40 : decode cX0_weak 40 = .ok (.getfield 13, 3) := by decide +kernel
theorem dX0_weak_43 : decode cX0_weak 43 = .ok (.iload_n 1, 1) := by decide +kernel
theorem dX0_weak_44 : decode cX0_weak 44 = .ok (.iload_n 3, 1) := by decide +kernel
theorem dX0_weak_45 : decode cX0_weak 45 = .ok (.iastore, 1) := by decide +kernel
theorem dX0_weak_46 : decode cX0_weak 46 = .ok (.iload_n 3, 1) := by decide +kernel
theorem dX0_weak_47 : decode cX0_weak 47 = .ok (.ireturn, 1) := by decide +kernel
theorem dX0_copy_0 : decode cX0_copy 0 = .ok (.iload_n 1, 1) := by decide +kernel
theorem dX0_copy_1 : decode cX0_copy 1 = .ok (.invokestatic 42, 3) := by decide +kernel
theorem dX0_copy_4 : decode cX0_copy 4 = .ok (.iload_n 2, 1) := by decide +kernel
theorem dX0_copy_5 : decode cX0_copy 5 = .ok (.invokestatic 42, 3) := by decide +kernel
theorem dX0_copy_8 : decode cX0_copy 8 = .ok (.aload_n 0, 1) := by decide +kernel
theorem dX0_copy_9 : decode cX0_copy 9 = .ok (.getfield 13, 3) := by decide +kernel
theorem dX0_copy_12 : decode cX0_copy 12 = .ok (.iload_n 1, 1) := by decide +kernel
theorem dX0_copy_13 : decode cX0_copy 13 = .ok (.aload_n 0, 1) := by decide +kernel
theorem dX0_copy_14 : decode cX0_copy 14 = .ok (.getfield 13, 3) := by decide +kernel
theorem dX0_copy_17 : decode cX0_copy 17 = .ok (.iload_n 2, 1) := by decide +kernel
theorem dX0_copy_18 : decode cX0_copy 18 = .ok (.iaload, 1) := by decide +kernel
theorem dX0_copy_19 : decode cX0_copy 19 = .ok (.iastore, 1) := by decide +kernel
theorem dX0_copy_20 : decode cX0_copy 20 = .ok (.return_, 1) := by decide +kernel
theorem dX0_drop_0 : decode cX0_drop 0 = .ok (.iload_n 1, 1) := by decide +kernel
theorem dX0_drop_1 : decode cX0_drop 1 = .ok (.invokestatic 42, 3) := by decide +kernel
theorem dX0_drop_4 : decode cX0_drop 4 = .ok (.aload_n 0, 1) := by decide +kernel
theorem dX0_drop_5 : decode cX0_drop 5 = .ok (.getfield 13, 3) := by decide +kernel
theorem dX0_drop_8 : decode cX0_drop 8 = .ok (.iload_n 1, 1) := by decide +kernel
theorem dX0_drop_9 : decode cX0_drop 9 = .ok (.iconst (-1), 1) := by decide +kernel
theorem dX0_drop_10 : decode cX0_drop 10 = .ok (.iastore, 1) := by decide +kernel
theorem dX0_drop_11 : decode cX0_drop 11 = .ok (.return_, 1) := by decide +kernel
theorem dX0_link_0 : decode cX0_link 0 = .ok (.iload_n 1, 1) := by decide +kernel
theorem dX0_link_1 : decode cX0_link 1 = .ok (.invokestatic 42, 3) := by decide +kernel
theorem dX0_link_4 : decode cX0_link 4 = .ok (.iload_n 3, 1) := by decide +kernel
theorem dX0_link_5 : decode cX0_link 5 = .ok (.invokestatic 42, 3) := by decide +kernel
theorem dX0_link_8 : decode cX0_link 8 = .ok (.aload_n 0, 1) := by decide +kernel
theorem dX0_link_9 : decode cX0_link 9 = .ok (.getfield 13, 3) := by decide +kernel
theorem dX0_link_12 : decode cX0_link 12 = .ok (.iload_n 1, 1) := by decide +kernel
theorem dX0_link_13 : decode cX0_link 13 = .ok (.iaload, 1) := by decide +kernel
theorem dX0_link_14 : decode cX0_link 14 = .ok (.istore 4, 2) := by decide +kernel
theorem dX0_link_16 : decode cX0_link 16 = .ok (.iload 4, 2) := by decide +kernel
theorem dX0_link_18 : decode cX0_link 18 = .ok (.invokestatic 56, 3) := by decide +kernel
theorem dX0_link_21 : decode cX0_link 21 = .ok (.aload_n 0, 1) := by decide +kernel
theorem dX0_link_22 : decode cX0_link 22 = .ok (.iload 4, 2) := by decide +kernel
theorem dX0_link_24 : decode cX0_link 24 = .ok (.invokevirtual 59, 3) := by decide +kernel
theorem dX0_link_27 : decode cX0_link 27 = .ok (.iconst 1, 1) := by decide +kernel
theorem dX0_link_28 : decode cX0_link 28 = .ok (.if_icmp .ne 7, 3) := by decide +kernel
theorem dX0_link_31 : decode cX0_link 31 = .ok (.iconst 1, 1) := by decide +kernel
theorem dX0_link_32 : decode cX0_link 32 = .ok (.goto 4, 3) := by decide +kernel
theorem dX0_link_35 : decode cX0_link 35 = .ok (.iconst 0, 1) := by decide +kernel
theorem dX0_link_36 : decode cX0_link 36 = .ok (.invokestatic 63, 3) := by decide +kernel
theorem dX0_link_39 : decode cX0_link 39 = .ok (.iload_n 2, 1) := by decide +kernel
theorem dX0_link_40 : decode cX0_link 40 = .ok (.aload_n 0, 1) := by decide +kernel
theorem dX0_link_41 : decode cX0_link 41 = .ok (.iload 4, 2) := by decide +kernel
theorem dX0_link_43 : decode cX0_link 43 = .ok (.invokevirtual 67, 3) := by decide +kernel
theorem dX0_link_46 : decode cX0_link 46 = .ok (.invokestatic 46, 3) := by decide +kernel
theorem dX0_link_49 : decode cX0_link 49 = .ok (.aload_n 0, 1) := by decide +kernel
theorem dX0_link_50 : decode cX0_link 50 = .ok (.getfield 9, 3) := by decide +kernel
theorem dX0_link_53 : decode cX0_link 53 = .ok (.iload 4, 2) := by decide +kernel
theorem dX0_link_55 : decode cX0_link 55 = .ok (.iconst 1, 1) := by decide +kernel
theorem dX0_link_56 : decode cX0_link 56 = .ok (.iadd, 1) := by decide +kernel
theorem dX0_link_57 : decode cX0_link 57 = .ok (.iload_n 2, 1) := by decide +kernel
theorem dX0_link_58 : decode cX0_link 58 = .ok (.iadd, 1) := by decide +kernel
theorem dX0_link_59 : decode cX0_link 59 = .ok (.aload_n 0, 1) := by decide +kernel
theorem dX0_link_60 : decode cX0_link 60 = .ok (.getfield 13, 3) := by decide +kernel
theorem dX0_link_63 : decode cX0_link 63 = .ok (.iload_n 3, 1) := by decide +kernel
theorem dX0_link_64 : decode cX0_link 64 = .ok (.iaload, 1) := by decide +kernel
theorem dX0_link_65 : decode cX0_link 65 = .ok (.i2l, 1) := by decide +kernel
theorem dX0_link_66 : decode cX0_link 66 = .ok (.lastore, 1) := by decide +kernel
theorem dX0_link_67 : decode cX0_link 67 = .ok (.return_, 1) := by decide +kernel
theorem dX0_follow_0 : decode cX0_follow 0 = .ok (.iload_n 1, 1) := by decide +kernel
theorem dX0_follow_1 : decode cX0_follow 1 = .ok (.invokestatic 42, 3) := by decide +kernel
theorem dX0_follow_4 : decode cX0_follow 4 = .ok (.iload_n 2, 1) := by decide +kernel
theorem dX0_follow_5 : decode cX0_follow 5 = .ok (.invokestatic 42, 3) := by decide +kernel
theorem dX0_follow_8 : decode cX0_follow 8 = .ok (.aload_n 0, 1) := by decide +kernel
theorem dX0_follow_9 : decode cX0_follow 9 = .ok (.getfield 13, 3) := by decide +kernel
theorem dX0_follow_12 : decode cX0_follow 12 = .ok (.iload_n 2, 1) := by decide +kernel
theorem dX0_follow_13 : decode cX0_follow 13 = .ok (.iaload, 1) := by decide +kernel
theorem dX0_follow_14 : decode cX0_follow 14 = .ok (.istore 4, 2) := by decide +kernel
theorem dX0_follow_16 : decode cX0_follow 16 = .ok (.iload 4, 2) := by decide +kernel
theorem dX0_follow_18 : decode cX0_follow 18 = .ok (.invokestatic 56, 3) := by decide +kernel
theorem dX0_follow_21 : decode cX0_follow 21 = .ok (.aload_n 0, 1) := by decide +kernel
theorem dX0_follow_22 : decode cX0_follow 22 = .ok (.iload 4, 2) := by decide +kernel
theorem dX0_follow_24 : decode cX0_follow 24 = .ok (.invokevirtual 59, 3) := by decide +kernel
theorem dX0_follow_27 : decode cX0_follow 27 = .ok (.iconst 2, 1) := by decide +kernel
theorem dX0_follow_28 : decode cX0_follow 28 = .ok (.if_icmp .eq 7, 3) := by decide +kernel
theorem dX0_follow_31 : decode cX0_follow 31 = .ok (.iconst 1, 1) := by decide +kernel
theorem dX0_follow_32 : decode cX0_follow 32 = .ok (.goto 4, 3) := by decide +kernel
theorem dX0_follow_35 : decode cX0_follow 35 = .ok (.iconst 0, 1) := by decide +kernel
theorem dX0_follow_36 : decode cX0_follow 36 = .ok (.invokestatic 63, 3) := by decide +kernel
theorem dX0_follow_39 : decode cX0_follow 39 = .ok (.iload_n 3, 1) := by decide +kernel
theorem dX0_follow_40 : decode cX0_follow 40 = .ok (.aload_n 0, 1) := by decide +kernel
theorem dX0_follow_41 : decode cX0_follow 41 = .ok (.iload 4, 2) := by decide +kernel
theorem dX0_follow_43 : decode cX0_follow 43 = .ok (.invokevirtual 67, 3) := by decide +kernel
theorem dX0_follow_46 : decode cX0_follow 46 = .ok (.invokestatic 46, 3) := by decide +kernel
theorem dX0_follow_49 : decode cX0_follow 49 = .ok (.aload_n 0, 1) := by decide +kernel
theorem dX0_follow_50 : decode cX0_follow 50 = .ok (.getfield 13, 3) := by decide +kernel
theorem dX0_follow_53 : decode cX0_follow 53 = .ok (.iload_n 1, 1) := by decide +kernel
theorem dX0_follow_54 : decode cX0_follow 54 = .ok (.aload_n 0, 1) := by decide +kernel
theorem dX0_follow_55 : decode cX0_follow 55 = .ok (.getfield 9, 3) := by decide +kernel
theorem dX0_follow_58 : decode cX0_follow 58 = .ok (.iload 4, 2) := by decide +kernel
theorem dX0_follow_60 : decode cX0_follow 60 = .ok (.iconst 1, 1) := by decide +kernel
theorem dX0_follow_61 : decode cX0_follow 61 = .ok (.iadd, 1) := by decide +kernel
theorem dX0_follow_62 : decode cX0_follow 62 = .ok (.iload_n 3, 1) := by decide +kernel
theorem dX0_follow_63 : decode cX0_follow 63 = .ok (.iadd, 1) := by decide +kernel
theorem dX0_follow_64 : decode cX0_follow 64 = .ok (.laload, 1) := by decide +kernel
theorem dX0_follow_65 : decode cX0_follow 65 = .ok (.l2i, 1) := by decide +kernel
theorem dX0_follow_66 : decode cX0_follow 66 = .ok (.iastore, 1) := by decide +kernel
theorem dX0_follow_67 : decode cX0_follow 67 = .ok (.return_, 1) := by decide +kernel
theorem dX0_put_0 : decode cX0_put 0 = .ok (.aload_n 0, 1) := by decide +kernel
theorem dX0_put_1 : decode cX0_put 1 = .ok (.getfield 9, 3) := by decide +kernel
theorem dX0_put_4 : decode cX0_put 4 = .ok (.aload_n 0, 1) := by decide +kernel
theorem dX0_put_5 : decode cX0_put 5 = .ok (.iload_n 1, 1) := by decide +kernel
theorem dX0_put_6 : decode cX0_put 6 = .ok (.iload_n 2, 1) := by decide +kernel
theorem dX0_put_7 : decode cX0_put 7 = .ok (.invokevirtual 70, 3) := by decide +kernel
theorem dX0_put_10 : decode cX0_put 10 = .ok (.lload_n 3, 1) := by decide +kernel
theorem dX0_put_11 : decode cX0_put 11 = .ok (.lastore, 1) := by decide +kernel
theorem dX0_put_12 : decode cX0_put 12 = .ok (.return_, 1) := by decide +kernel
theorem dX0_get_0 : decode cX0_get 0 = .ok (.aload_n 0, 1) := by decide +kernel
theorem dX0_get_1 : decode cX0_get 1 = .ok (.getfield 9, 3) := by decide +kernel
theorem dX0_get_4 : decode cX0_get 4 = .ok (.aload_n 0, 1) := by decide +kernel
theorem dX0_get_5 : decode cX0_get 5 = .ok (.iload_n 1, 1) := by decide +kernel
theorem dX0_get_6 : decode cX0_get 6 = .ok (.iload_n 2, 1) := by decide +kernel
theorem dX0_get_7 : decode cX0_get 7 = .ok (.invokevirtual 70, 3) := by decide +kernel
theorem dX0_get_10 : decode cX0_get 10 = .ok (.laload, 1) := by decide +kernel
theorem dX0_get_11 : decode cX0_get 11 = .ok (.lreturn, 1) := by decide +kernel
theorem dX0_collect_0 : decode cX0_collect 0 = .ok (.aload_n 0, 1) := by decide +kernel
theorem dX0_collect_1 : decode cX0_collect 1 = .ok (.getfield 21, 3) := by decide +kernel
theorem dX0_collect_4 : decode cX0_collect 4 = .ok (.istore_n 1, 1) := by decide +kernel
theorem dX0_collect_5 : decode cX0_collect 5 = .ok (.aload_n 0, 1) := by decide +kernel
theorem dX0_collect_6 : decode cX0_collect 6 = .ok (.invokevirtual 73, 3) := by decide +kernel
theorem dX0_collect_9 : decode cX0_collect 9 = .ok (.iload_n 1, 1) := by decide +kernel
theorem dX0_collect_10 : decode cX0_collect 10 = .ok (.aload_n 0, 1) := by decide +kernel
theorem dX0_collect_11 : decode cX0_collect 11 = .ok (.getfield 21, 3) := by decide +kernel
theorem dX0_collect_14 : decode cX0_collect 14 = .ok (.isub, 1) := by decide +kernel
theorem dX0_collect_15 : decode cX0_collect 15 = .ok (.ireturn, 1) := by decide +kernel
theorem dX0_state_0 : decode cX0_state 0 = .ok (.iload_n 1, 1) := by decide +kernel
theorem dX0_state_1 : decode cX0_state 1 = .ok (.invokestatic 42, 3) := by decide +kernel
theorem dX0_state_4 : decode cX0_state 4 = .ok (.iload_n 2, 1) := by decide +kernel
theorem dX0_state_5 : decode cX0_state 5 = .ok (.iconst 3, 1) := by decide +kernel
theorem dX0_state_6 : decode cX0_state 6 = .ok (.invokestatic 46, 3) := by decide +kernel
theorem dX0_state_9 : decode cX0_state 9 = .ok (.aload_n 0, 1) := by decide +kernel
theorem dX0_state_10 : decode cX0_state 10 = .ok (.getfield 13, 3) := by decide +kernel
theorem dX0_state_13 : decode cX0_state 13 = .ok (.iload_n 1, 1) := by decide +kernel
theorem dX0_state_14 : decode cX0_state 14 = .ok (.iaload, 1) := by decide +kernel
theorem dX0_state_15 : decode cX0_state 15 = .ok (.istore_n 3, 1) := by decide +kernel
theorem dX0_state_16 : decode cX0_state 16 = .ok (.iload_n 2, 1) := by decide +kernel
theorem dX0_state_17 : decode cX0_state 17 = .ok (.ifCond .ne 18, 3) := by decide +kernel
theorem dX0_state_20 : decode cX0_state 20 = .ok (.iload_n 3, 1) := by decide +kernel
theorem dX0_state_21 : decode cX0_state 21 = .ok (.iconst (-1), 1) := by decide +kernel
theorem dX0_state_22 : decode cX0_state 22 = .ok (.if_icmp .ne 7, 3) := by decide +kernel
theorem dX0_state_25 : decode cX0_state 25 = .ok (.iconst 0, 1) := by decide +kernel
theorem dX0_state_26 : decode cX0_state 26 = .ok (.goto 8, 3) := by decide +kernel
theorem dX0_state_29 : decode cX0_state 29 = .ok (.aload_n 0, 1) := by decide +kernel
theorem dX0_state_30 : decode cX0_state 30 = .ok (.iload_n 3, 1) := by decide +kernel
theorem dX0_state_31 : decode cX0_state 31 = .ok (.invokevirtual 59, 3) := by decide +kernel
theorem dX0_state_34 : decode cX0_state 34 = .ok (.ireturn, 1) := by decide +kernel
theorem dX0_state_35 : decode cX0_state 35 = .ok (.iload_n 3, 1) := by decide +kernel
theorem dX0_state_36 : decode cX0_state 36 = .ok (.iconst (-1), 1) := by decide +kernel
theorem dX0_state_37 : decode cX0_state 37 = .ok (.if_icmp .ne 5, 3) := by decide +kernel
theorem dX0_state_40 : decode cX0_state 40 = .ok (.iconst (-1), 1) := by decide +kernel
theorem dX0_state_41 : decode cX0_state 41 = .ok (.ireturn, 1) := by decide +kernel
theorem dX0_state_42 : decode cX0_state 42 = .ok (.iload_n 2, 1) := by decide +kernel
theorem dX0_state_43 : decode cX0_state 43 = .ok (.iconst 1, 1) := by decide +kernel
theorem dX0_state_44 : decode cX0_state 44 = .ok (.if_icmp .ne 7, 3) := by decide +kernel
theorem dX0_state_47 : decode cX0_state 47 = .ok (.iload_n 3, 1) := by decide +kernel
theorem dX0_state_48 : decode cX0_state 48 = .ok (.goto 8, 3) := by decide +kernel
theorem dX0_state_51 : decode cX0_state 51 = .ok (.aload_n 0, 1) := by decide +kernel
theorem dX0_state_52 : decode cX0_state 52 = .ok (.iload_n 3, 1) := by decide +kernel
theorem dX0_state_53 : decode cX0_state 53 = .ok (.invokevirtual 67, 3) := by decide +kernel
theorem dX0_state_56 : decode cX0_state 56 = .ok (.ireturn, 1) := by decide +kernel
theorem dX0_count_0 : decode cX0_count 0 = .ok (.iload_n 1, 1) := by decide +kernel
theorem dX0_count_1 : decode cX0_count 1 = .ok (.tableswitch 42 0 2 #[27, 32, 37], 27) := by decide +kernel
theorem dX0_count_28 : decode cX0_count 28 = .ok (.aload_n 0, 1) := by decide +kernel
theorem dX0_count_29 : decode cX0_count 29 = .ok (.getfield 17, 3) := by decide +kernel
theorem dX0_count_32 : decode cX0_count 32 = .ok (.ireturn, 1) := by decide +kernel
theorem dX0_count_33 : decode cX0_count 33 = .ok (.aload_n 0, 1) := by decide +kernel
theorem dX0_count_34 : decode cX0_count 34 = .ok (.getfield 21, 3) := by decide +kernel
theorem dX0_count_37 : decode cX0_count 37 = .ok (.ireturn, 1) := by decide +kernel
theorem dX0_count_38 : decode cX0_count 38 = .ok (.aload_n 0, 1) := by decide +kernel
theorem dX0_count_39 : decode cX0_count 39 = .ok (.getfield 24, 3) := by decide +kernel
theorem dX0_count_42 : decode cX0_count 42 = .ok (.ireturn, 1) := by decide +kernel
theorem dX0_count_43 : decode cX0_count 43 = .ok (.iconst (-1), 1) := by decide +kernel
theorem dX0_count_44 : decode cX0_count 44 = .ok (.ireturn, 1) := by decide +kernel
theorem dX0_checkRegister_0 : decode cX0_checkRegister 0 = .ok (.iload_n 0, 1) := by decide +kernel
theorem dX0_checkRegister_1 : decode cX0_checkRegister 1 = .ok (.bipush 16, 2) := by decide +kernel
theorem dX0_checkRegister_3 : decode cX0_checkRegister 3 = .ok (.invokestatic 46, 3) := by decide +kernel
theorem dX0_checkRegister_6 : decode cX0_checkRegister 6 = .ok (.return_, 1) := by decide +kernel
theorem dX0_checkBelow_0 : decode cX0_checkBelow 0 = .ok (.iload_n 0, 1) := by decide +kernel
theorem dX0_checkBelow_1 : decode cX0_checkBelow 1 = .ok (.ifCond .lt 8, 3) := by decide +kernel
theorem dX0_checkBelow_4 : decode cX0_checkBelow 4 = .ok (.iload_n 0, 1) := by decide +kernel
theorem dX0_checkBelow_5 : decode cX0_checkBelow 5 = .ok (.iload_n 1, 1) := by decide +kernel
theorem dX0_checkBelow_6 : decode cX0_checkBelow 6 = .ok (.if_icmp .lt 13, 3) := by decide +kernel
theorem dX0_checkBelow_9 : decode cX0_checkBelow 9 = .ok (.new 76, 3) := by decide +kernel
theorem dX0_checkBelow_12 : decode cX0_checkBelow 12 = .ok (.dup, 1) := by decide +kernel
theorem dX0_checkBelow_13 : decode cX0_checkBelow 13 = .ok (.ldc 78, 2) := by decide +kernel
theorem dX0_checkBelow_15 : decode cX0_checkBelow 15 = .ok (.invokespecial 80, 3) := by decide +kernel
theorem dX0_checkBelow_18 : decode cX0_checkBelow 18 = .ok (.athrow, 1) := by decide +kernel
theorem dX0_checkBelow_19 : decode cX0_checkBelow 19 = .ok (.return_, 1) := by decide +kernel
theorem dX0_checkKind_0 : decode cX0_checkKind 0 = .ok (.iload_n 0, 1) := by decide +kernel
theorem dX0_checkKind_1 : decode cX0_checkKind 1 = .ok (.ifCond .ne 13, 3) := by decide +kernel
theorem dX0_checkKind_4 : decode cX0_checkKind 4 = .ok (.new 76, 3) := by decide +kernel
theorem dX0_checkKind_7 : decode cX0_checkKind 7 = .ok (.dup, 1) := by decide +kernel
theorem dX0_checkKind_8 : decode cX0_checkKind 8 = .ok (.ldc 83, 2) := by decide +kernel
theorem dX0_checkKind_10 : decode cX0_checkKind 10 = .ok (.invokespecial 80, 3) := by decide +kernel
theorem dX0_checkKind_13 : decode cX0_checkKind 13 = .ok (.athrow, 1) := by decide +kernel
theorem dX0_checkKind_14 : decode cX0_checkKind 14 = .ok (.return_, 1) := by decide +kernel
theorem dX0_checkNotNull_0 : decode cX0_checkNotNull 0 = .ok (.iload_n 0, 1) := by decide +kernel
theorem dX0_checkNotNull_1 : decode cX0_checkNotNull 1 = .ok (.iconst (-1), 1) := by decide +kernel
theorem dX0_checkNotNull_2 : decode cX0_checkNotNull 2 = .ok (.if_icmp .ne 13, 3) := by decide +kernel
theorem dX0_checkNotNull_5 : decode cX0_checkNotNull 5 = .ok (.new 85, 3) := by decide +kernel
theorem dX0_checkNotNull_8 : decode cX0_checkNotNull 8 = .ok (.dup, 1) := by decide +kernel
theorem dX0_checkNotNull_9 : decode cX0_checkNotNull 9 = .ok (.ldc 87, 2) := by decide +kernel
theorem dX0_checkNotNull_11 : decode cX0_checkNotNull 11 = .ok (.invokespecial 89, 3) := by decide +kernel
theorem dX0_checkNotNull_14 : decode cX0_checkNotNull 14 = .ok (.athrow, 1) := by decide +kernel
theorem dX0_checkNotNull_15 : decode cX0_checkNotNull 15 = .ok (.return_, 1) := by decide +kernel
theorem dX0_numberCell_0 : decode cX0_numberCell 0 = .ok (.iload_n 1, 1) := by decide +kernel
theorem dX0_numberCell_1 : decode cX0_numberCell 1 = .ok (.invokestatic 42, 3) := by decide +kernel
theorem dX0_numberCell_4 : decode cX0_numberCell 4 = .ok (.aload_n 0, 1) := by decide +kernel
theorem dX0_numberCell_5 : decode cX0_numberCell 5 = .ok (.getfield 13, 3) := by decide +kernel
theorem dX0_numberCell_8 : decode cX0_numberCell 8 = .ok (.iload_n 1, 1) := by decide +kernel
theorem dX0_numberCell_9 : decode cX0_numberCell 9 = .ok (.iaload, 1) := by decide +kernel
theorem dX0_numberCell_10 : decode cX0_numberCell 10 = .ok (.istore_n 3, 1) := by decide +kernel
theorem dX0_numberCell_11 : decode cX0_numberCell 11 = .ok (.iload_n 3, 1) := by decide +kernel
theorem dX0_numberCell_12 : decode cX0_numberCell 12 = .ok (.invokestatic 56, 3) := by decide +kernel
theorem dX0_numberCell_15 : decode cX0_numberCell 15 = .ok (.aload_n 0, 1) := by decide +kernel
theorem dX0_numberCell_16 : decode cX0_numberCell 16 = .ok (.iload_n 3, 1) := by decide +kernel
theorem dX0_numberCell_17 : decode cX0_numberCell 17 = .ok (.invokevirtual 59, 3) := by decide +kernel
theorem dX0_numberCell_20 : decode cX0_numberCell 20 = .ok (.iconst 2, 1) := by decide +kernel
theorem dX0_numberCell_21 : decode cX0_numberCell 21 = .ok (.if_icmp .ne 7, 3) := by decide +kernel
theorem dX0_numberCell_24 : decode cX0_numberCell 24 = .ok (.iconst 1, 1) := by decide +kernel
theorem dX0_numberCell_25 : decode cX0_numberCell 25 = .ok (.goto 4, 3) := by decide +kernel
theorem dX0_numberCell_28 : decode cX0_numberCell 28 = .ok (.iconst 0, 1) := by decide +kernel
theorem dX0_numberCell_29 : decode cX0_numberCell 29 = .ok (.invokestatic 63, 3) := by decide +kernel
theorem dX0_numberCell_32 : decode cX0_numberCell 32 = .ok (.iload_n 2, 1) := by decide +kernel
theorem dX0_numberCell_33 : decode cX0_numberCell 33 = .ok (.aload_n 0, 1) := by decide +kernel
theorem dX0_numberCell_34 : decode cX0_numberCell 34 = .ok (.iload_n 3, 1) := by decide +kernel
theorem dX0_numberCell_35 : decode cX0_numberCell 35 = .ok (.invokevirtual 67, 3) := by decide +kernel
theorem dX0_numberCell_38 : decode cX0_numberCell 38 = .ok (.invokestatic 46, 3) := by decide +kernel
theorem dX0_numberCell_41 : decode cX0_numberCell 41 = .ok (.iload_n 3, 1) := by decide +kernel
theorem dX0_numberCell_42 : decode cX0_numberCell 42 = .ok (.iconst 1, 1) := by decide +kernel
theorem dX0_numberCell_43 : decode cX0_numberCell 43 = .ok (.iadd, 1) := by decide +kernel
theorem dX0_numberCell_44 : decode cX0_numberCell 44 = .ok (.iload_n 2, 1) := by decide +kernel
theorem dX0_numberCell_45 : decode cX0_numberCell 45 = .ok (.iadd, 1) := by decide +kernel
theorem dX0_numberCell_46 : decode cX0_numberCell 46 = .ok (.ireturn, 1) := by decide +kernel
theorem dX0_kindAt_0 : decode cX0_kindAt 0 = .ok (.aload_n 0, 1) := by decide +kernel
theorem dX0_kindAt_1 : decode cX0_kindAt 1 = .ok (.getfield 9, 3) := by decide +kernel
theorem dX0_kindAt_4 : decode cX0_kindAt 4 = .ok (.iload_n 1, 1) := by decide +kernel
theorem dX0_kindAt_5 : decode cX0_kindAt 5 = .ok (.laload, 1) := by decide +kernel
theorem dX0_kindAt_6 : decode cX0_kindAt 6 = .ok (.l2i, 1) := by decide +kernel
theorem dX0_kindAt_7 : decode cX0_kindAt 7 = .ok (.iconst 3, 1) := by decide +kernel
theorem dX0_kindAt_8 : decode cX0_kindAt 8 = .ok (.iand, 1) := by decide +kernel
theorem dX0_kindAt_9 : decode cX0_kindAt 9 = .ok (.ireturn, 1) := by decide +kernel
theorem dX0_lengthAt_0 : decode cX0_lengthAt 0 = .ok (.aload_n 0, 1) := by decide +kernel
theorem dX0_lengthAt_1 : decode cX0_lengthAt 1 = .ok (.getfield 9, 3) := by decide +kernel
theorem dX0_lengthAt_4 : decode cX0_lengthAt 4 = .ok (.iload_n 1, 1) := by decide +kernel
theorem dX0_lengthAt_5 : decode cX0_lengthAt 5 = .ok (.laload, 1) := by decide +kernel
theorem dX0_lengthAt_6 : decode cX0_lengthAt 6 = .ok (.l2i, 1) := by decide +kernel
theorem dX0_lengthAt_7 : decode cX0_lengthAt 7 = .ok (.iconst 2, 1) := by decide +kernel
theorem dX0_lengthAt_8 : decode cX0_lengthAt 8 = .ok (.ishr, 1) := by decide +kernel
theorem dX0_lengthAt_9 : decode cX0_lengthAt 9 = .ok (.ireturn, 1) := by decide +kernel
theorem dX0_sizeAt_0 : decode cX0_sizeAt 0 = .ok (.iconst 1, 1) := by decide +kernel
theorem dX0_sizeAt_1 : decode cX0_sizeAt 1 = .ok (.aload_n 0, 1) := by decide +kernel
theorem dX0_sizeAt_2 : decode cX0_sizeAt 2 = .ok (.iload_n 1, 1) := by decide +kernel
theorem dX0_sizeAt_3 : decode cX0_sizeAt 3 = .ok (.invokevirtual 67, 3) := by decide +kernel
theorem dX0_sizeAt_6 : decode cX0_sizeAt 6 = .ok (.iadd, 1) := by decide +kernel
theorem dX0_sizeAt_7 : decode cX0_sizeAt 7 = .ok (.ireturn, 1) := by decide +kernel
theorem dX0_takeCells_0 : decode cX0_takeCells 0 = .ok (.aload_n 0, 1) := by decide +kernel
theorem dX0_takeCells_1 : decode cX0_takeCells 1 = .ok (.iload_n 2, 1) := by decide +kernel
theorem dX0_takeCells_2 : decode cX0_takeCells 2 = .ok (.invokevirtual 90, 3) := by decide +kernel
theorem dX0_takeCells_5 : decode cX0_takeCells 5 = .ok (.ifCond .ne 7, 3) := by decide +kernel
theorem dX0_takeCells_8 : decode cX0_takeCells 8 = .ok (.aload_n 0, 1) := by decide +kernel
theorem dX0_takeCells_9 : decode cX0_takeCells 9 = .ok (.invokevirtual 73, 3) := by decide +kernel
theorem dX0_takeCells_12 : decode cX0_takeCells 12 = .ok (.aload_n 0, 1) := by decide +kernel
theorem dX0_takeCells_13 : decode cX0_takeCells 13 = .ok (.iload_n 2, 1) := by decide +kernel
theorem dX0_takeCells_14 : decode cX0_takeCells 14 = .ok (.invokevirtual 90, 3) := by decide +kernel
theorem dX0_takeCells_17 : decode cX0_takeCells 17 = .ok (.ifCond .ne 13, 3) := by decide +kernel
theorem dX0_takeCells_20 : decode cX0_takeCells 20 = .ok (.new 94, 3) := by decide +kernel
theorem dX0_takeCells_23 : decode cX0_takeCells 23 = .ok (.dup, 1) := by decide +kernel
theorem dX0_takeCells_24 : decode cX0_takeCells 24 = .ok (.ldc 96, 2) := by decide +kernel
theorem dX0_takeCells_26 : decode cX0_takeCells 26 = .ok (.invokespecial 98, 3) := by decide +kernel
theorem dX0_takeCells_29 : decode cX0_takeCells 29 = .ok (.athrow, 1) := by decide +kernel
theorem dX0_takeCells_30 : decode cX0_takeCells 30 = .ok (.aload_n 0, 1) := by decide +kernel
theorem dX0_takeCells_31 : decode cX0_takeCells 31 = .ok (.getfield 17, 3) := by decide +kernel
theorem dX0_takeCells_34 : decode cX0_takeCells 34 = .ok (.istore_n 3, 1) := by decide +kernel
theorem dX0_takeCells_35 : decode cX0_takeCells 35 = .ok (.aload_n 0, 1) := by decide +kernel
theorem dX0_takeCells_36 : decode cX0_takeCells 36 = .ok (.getfield 9, 3) := by decide +kernel
theorem dX0_takeCells_39 : decode cX0_takeCells 39 = .ok (.iload_n 3, 1) := by decide +kernel
theorem dX0_takeCells_40 : decode cX0_takeCells 40 = .ok (.iload_n 2, 1) := by decide +kernel
theorem dX0_takeCells_41 : decode cX0_takeCells 41 = .ok (.iconst 2, 1) := by decide +kernel
theorem dX0_takeCells_42 : decode cX0_takeCells 42 = .ok (.ishl, 1) := by decide +kernel
theorem dX0_takeCells_43 : decode cX0_takeCells 43 = .ok (.iload_n 1, 1) := by decide +kernel
theorem dX0_takeCells_44 : decode cX0_takeCells 44 = .ok (.ior, 1) := by decide +kernel
theorem dX0_takeCells_45 : decode cX0_takeCells 45 = .ok (.i2l, 1) := by decide +kernel
theorem dX0_takeCells_46 : decode cX0_takeCells 46 = .ok (.lastore, 1) := by decide +kernel
theorem dX0_takeCells_47 : decode cX0_takeCells 47 = .ok (.aload_n 0, 1) := by decide +kernel
theorem dX0_takeCells_48 : decode cX0_takeCells 48 = .ok (.dup, 1) := by decide +kernel
theorem dX0_takeCells_49 : decode cX0_takeCells 49 = .ok (.getfield 17, 3) := by decide +kernel
theorem dX0_takeCells_52 : decode cX0_takeCells 52 = .ok (.iconst 1, 1) := by decide +kernel
theorem dX0_takeCells_53 : decode cX0_takeCells 53 = .ok (.iload_n 2, 1) := by decide +kernel
theorem dX0_takeCells_54 : decode cX0_takeCells 54 = .ok (.iadd, 1) := by decide +kernel
theorem dX0_takeCells_55 : decode cX0_takeCells 55 = .ok (.iadd, 1) := by decide +kernel
theorem dX0_takeCells_56 : decode cX0_takeCells 56 = .ok (.putfield 17, 3) := by decide +kernel
theorem dX0_takeCells_59 : decode cX0_takeCells 59 = .ok (.aload_n 0, 1) := by decide +kernel
theorem dX0_takeCells_60 : decode cX0_takeCells 60 = .ok (.dup, 1) := by decide +kernel
theorem dX0_takeCells_61 : decode cX0_takeCells 61 = .ok (.getfield 21, 3) := by decide +kernel
theorem dX0_takeCells_64 : decode cX0_takeCells 64 = .ok (.iconst 1, 1) := by decide +kernel
theorem dX0_takeCells_65 : decode cX0_takeCells 65 = .ok (.iadd, 1) := by decide +kernel
theorem dX0_takeCells_66 : decode cX0_takeCells 66 = .ok (.putfield 21, 3) := by decide +kernel
theorem dX0_takeCells_69 : decode cX0_takeCells 69 = .ok (.iload_n 3, 1) := by decide +kernel
theorem dX0_takeCells_70 : decode cX0_takeCells 70 = .ok (.ireturn, 1) := by decide +kernel
theorem dX0_hasRoom_0 : decode cX0_hasRoom 0 = .ok (.aload_n 0, 1) := by decide +kernel
theorem dX0_hasRoom_1 : decode cX0_hasRoom 1 = .ok (.getfield 17, 3) := by decide +kernel
theorem dX0_hasRoom_4 : decode cX0_hasRoom 4 = .ok (.iconst 1, 1) := by decide +kernel
theorem dX0_hasRoom_5 : decode cX0_hasRoom 5 = .ok (.iadd, 1) := by decide +kernel
theorem dX0_hasRoom_6 : decode cX0_hasRoom 6 = .ok (.iload_n 1, 1) := by decide +kernel
theorem dX0_hasRoom_7 : decode cX0_hasRoom 7 = .ok (.iadd, 1) := by decide +kernel
theorem dX0_hasRoom_8 : decode cX0_hasRoom 8 = .ok (.sipush 300, 3) := by decide +kernel
theorem dX0_hasRoom_11 : decode cX0_hasRoom 11 = .ok (.if_icmp .gt 7, 3) := by decide +kernel
theorem dX0_hasRoom_14 : decode cX0_hasRoom 14 = .ok (.iconst 1, 1) := by decide +kernel
theorem dX0_hasRoom_15 : decode cX0_hasRoom 15 = .ok (.goto 4, 3) := by decide +kernel
theorem dX0_hasRoom_18 : decode cX0_hasRoom 18 = .ok (.iconst 0, 1) := by decide +kernel
theorem dX0_hasRoom_19 : decode cX0_hasRoom 19 = .ok (.ireturn, 1) := by decide +kernel
theorem dX0_pressTogether_0 : decode cX0_pressTogether 0 = .ok (.aload_n 0, 1) := by decide +kernel
theorem dX0_pressTogether_1 : decode cX0_pressTogether 1 = .ok (.dup, 1) := by decide +kernel
theorem dX0_pressTogether_2 : decode cX0_pressTogether 2 = .ok (.getfield 24, 3) := by decide +kernel
theorem dX0_pressTogether_5 : decode cX0_pressTogether 5 = .ok (.iconst 1, 1) := by decide +kernel
theorem dX0_pressTogether_6 : decode cX0_pressTogether 6 = .ok (.iadd, 1) := by decide +kernel
theorem dX0_pressTogether_7 : decode cX0_pressTogether 7 = .ok (.putfield 24, 3) := by decide +kernel
theorem dX0_pressTogether_10 : decode cX0_pressTogether 10 = .ok (.aload_n 0, 1) := by decide +kernel
theorem dX0_pressTogether_11 : decode cX0_pressTogether 11 = .ok (.invokevirtual 99, 3) := by decide +kernel
theorem dX0_pressTogether_14 : decode cX0_pressTogether 14 = .ok (.aload_n 0, 1) := by decide +kernel
theorem dX0_pressTogether_15 : decode cX0_pressTogether 15 = .ok (.invokevirtual 102, 3) := by decide +kernel
theorem dX0_pressTogether_18 : decode cX0_pressTogether 18 = .ok (.istore_n 1, 1) := by decide +kernel
theorem dX0_pressTogether_19 : decode cX0_pressTogether 19 = .ok (.aload_n 0, 1) := by decide +kernel
theorem dX0_pressTogether_20 : decode cX0_pressTogether 20 = .ok (.invokevirtual 106, 3) := by decide +kernel
theorem dX0_pressTogether_23 : decode cX0_pressTogether 23 = .ok (.aload_n 0, 1) := by decide +kernel
theorem dX0_pressTogether_24 : decode cX0_pressTogether 24 = .ok (.invokevirtual 109, 3) := by decide +kernel
theorem dX0_pressTogether_27 : decode cX0_pressTogether 27 = .ok (.aload_n 0, 1) := by decide +kernel
theorem dX0_pressTogether_28 : decode cX0_pressTogether 28 = .ok (.invokevirtual 112, 3) := by decide +kernel
theorem dX0_pressTogether_31 : decode cX0_pressTogether 31 = .ok (.aload_n 0, 1) := by decide +kernel
theorem dX0_pressTogether_32 : decode cX0_pressTogether 32 = .ok (.iload_n 1, 1) := by decide +kernel
theorem dX0_pressTogether_33 : decode cX0_pressTogether 33 = .ok (.putfield 17, 3) := by decide +kernel
theorem dX0_pressTogether_36 : decode cX0_pressTogether 36 = .ok (.aload_n 0, 1) := by decide +kernel
theorem dX0_pressTogether_37 : decode cX0_pressTogether 37 = .ok (.aload_n 0, 1) := by decide +kernel
theorem dX0_pressTogether_38 : decode cX0_pressTogether 38 = .ok (.getfield 30, 3) := by decide +kernel
theorem dX0_pressTogether_41 : decode cX0_pressTogether 41 = .ok (.putfield 21, 3) := by decide +kernel
theorem dX0_pressTogether_44 : decode cX0_pressTogether 44 = .ok (.return_, 1) := by decide +kernel
theorem dX0_findReached_0 : decode cX0_findReached 0 = .ok (.aload_n 0, 1) := by decide +kernel
theorem dX0_findReached_1 : decode cX0_findReached 1 = .ok (.getfield 33, 3) := by decide +kernel
theorem dX0_findReached_4 : decode cX0_findReached 4 = .ok (.iconst (-1), 1) := by decide +kernel
theorem dX0_findReached_5 : decode cX0_findReached 5 = .ok (.invokestatic 36, 3) := by decide +kernel
theorem dX0_findReached_8 : decode cX0_findReached 8 = .ok (.aload_n 0, 1) := by decide +kernel
theorem dX0_findReached_9 : decode cX0_findReached 9 = .ok (.iconst 0, 1) := by decide +kernel
theorem dX0_findReached_10 : decode cX0_findReached 10 = .ok (.putfield 30, 3) := by decide +kernel
theorem dX0_findReached_13 : decode cX0_findReached 13 = .ok (.iconst 0, 1) := by decide +kernel
theorem dX0_findReached_14 : decode cX0_findReached 14 = .ok (.istore_n 1, 1) := by decide +kernel
theorem dX0_findReached_15 : decode cX0_findReached 15 = .ok (.iload_n 1, 1) := by decide +kernel
theorem dX0_findReached_16 : decode cX0_findReached 16 = .ok (.bipush 16, 2) := by decide +kernel
theorem dX0_findReached_18 : decode cX0_findReached 18 = .ok (.if_icmp .ge 19, 3) := by decide +kernel
theorem dX0_findReached_21 : decode cX0_findReached 21 = .ok (.aload_n 0, 1) := by decide +kernel
theorem dX0_findReached_22 : decode cX0_findReached 22 = .ok (.aload_n 0, 1) := by decide +kernel
theorem dX0_findReached_23 : decode cX0_findReached 23 = .ok (.getfield 13, 3) := by decide +kernel
theorem dX0_findReached_26 : decode cX0_findReached 26 = .ok (.iload_n 1, 1) := by decide +kernel
theorem dX0_findReached_27 : decode cX0_findReached 27 = .ok (.iaload, 1) := by decide +kernel
theorem dX0_findReached_28 : decode cX0_findReached 28 = .ok (.invokevirtual 115, 3) := by decide +kernel
theorem dX0_findReached_31 : decode cX0_findReached 31 = .ok (.iinc 1 1, 3) := by decide +kernel
theorem dX0_findReached_34 : decode cX0_findReached 34 = .ok (.goto (-19), 3) := by decide +kernel
theorem dX0_findReached_37 : decode cX0_findReached 37 = .ok (.iconst 0, 1) := by decide +kernel
theorem dX0_findReached_38 : decode cX0_findReached 38 = .ok (.istore_n 1, 1) := by decide +kernel
theorem dX0_findReached_39 : decode cX0_findReached 39 = .ok (.iload_n 1, 1) := by decide +kernel
theorem dX0_findReached_40 : decode cX0_findReached 40 = .ok (.sipush 300, 3) := by decide +kernel
theorem dX0_findReached_43 : decode cX0_findReached 43 = .ok (.if_icmp .ge 41, 3) := by decide +kernel
theorem dX0_findReached_46 : decode cX0_findReached 46 = .ok (.iload_n 1, 1) := by decide +kernel
theorem dX0_findReached_47 : decode cX0_findReached 47 = .ok (.aload_n 0, 1) := by decide +kernel
theorem dX0_findReached_48 : decode cX0_findReached 48 = .ok (.getfield 30, 3) := by decide +kernel
theorem dX0_findReached_51 : decode cX0_findReached 51 = .ok (.if_icmp .ge 33, 3) := by decide +kernel
theorem dX0_findReached_54 : decode cX0_findReached 54 = .ok (.aload_n 0, 1) := by decide +kernel
theorem dX0_findReached_55 : decode cX0_findReached 55 = .ok (.aload_n 0, 1) := by decide +kernel
theorem dX0_findReached_56 : decode cX0_findReached 56 = .ok (.getfield 27, 3) := by decide +kernel
theorem dX0_findReached_59 : decode cX0_findReached 59 = .ok (.iload_n 1, 1) := by decide +kernel
theorem dX0_findReached_60 : decode cX0_findReached 60 = .ok (.iaload, 1) := by decide +kernel
theorem dX0_findReached_61 : decode cX0_findReached 61 = .ok (.invokevirtual 59, 3) := by decide +kernel
theorem dX0_findReached_64 : decode cX0_findReached 64 = .ok (.iconst 1, 1) := by decide +kernel
theorem dX0_findReached_65 : decode cX0_findReached 65 = .ok (.if_icmp .ne 13, 3) := by decide +kernel
theorem dX0_findReached_68 : decode cX0_findReached 68 = .ok (.aload_n 0, 1) := by decide +kernel
theorem dX0_findReached_69 : decode cX0_findReached 69 = .ok (.aload_n 0, 1) := by decide +kernel
theorem dX0_findReached_70 : decode cX0_findReached 70 = .ok (.getfield 27, 3) := by decide +kernel
theorem dX0_findReached_73 : decode cX0_findReached 73 = .ok (.iload_n 1, 1) := by decide +kernel
theorem dX0_findReached_74 : decode cX0_findReached 74 = .ok (.iaload, 1) := by decide +kernel
theorem dX0_findReached_75 : decode cX0_findReached 75 = .ok (.invokevirtual 118, 3) := by decide +kernel
theorem dX0_findReached_78 : decode cX0_findReached 78 = .ok (.iinc 1 1, 3) := by decide +kernel
theorem dX0_findReached_81 : decode cX0_findReached 81 = .ok (.goto (-42), 3) := by decide +kernel
theorem dX0_findReached_84 : decode cX0_findReached 84 = .ok (.return_, 1) := by decide +kernel
theorem dX0_noteContents_0 : decode cX0_noteContents 0 = .ok (.iload_n 1, 1) := by decide +kernel
theorem dX0_noteContents_1 : decode cX0_noteContents 1 = .ok (.aload_n 0, 1) := by decide +kernel
theorem dX0_noteContents_2 : decode cX0_noteContents 2 = .ok (.iload_n 1, 1) := by decide +kernel
theorem dX0_noteContents_3 : decode cX0_noteContents 3 = .ok (.invokevirtual 121, 3) := by decide +kernel
theorem dX0_noteContents_6 : decode cX0_noteContents 6 = .ok (.iadd, 1) := by decide +kernel
theorem dX0_noteContents_7 : decode cX0_noteContents 7 = .ok (.istore_n 2, 1) := by decide +kernel
theorem dX0_noteContents_8 : decode cX0_noteContents 8 = .ok (.iload_n 1, 1) := by decide +kernel
theorem dX0_noteContents_9 : decode cX0_noteContents 9 = .ok (.iconst 1, 1) := by decide +kernel
theorem dX0_noteContents_10 : decode cX0_noteContents 10 = .ok (.iadd, 1) := by decide +kernel
theorem dX0_noteContents_11 : decode cX0_noteContents 11 = .ok (.istore_n 3, 1) := by decide +kernel
theorem dX0_noteContents_12 : decode cX0_noteContents 12 = .ok (.iload_n 3, 1) := by decide +kernel
theorem dX0_noteContents_13 : decode cX0_noteContents 13 = .ok (.iload_n 2, 1) := by decide +kernel
theorem dX0_noteContents_14 : decode cX0_noteContents 14 = .ok (.if_icmp .ge 20, 3) := by decide +kernel
theorem dX0_noteContents_17 : decode cX0_noteContents 17 = .ok (.aload_n 0, 1) := by decide +kernel
theorem dX0_noteContents_18 : decode cX0_noteContents 18 = .ok (.aload_n 0, 1) := by decide +kernel
theorem dX0_noteContents_19 : decode cX0_noteContents 19 = .ok (.getfield 9, 3) := by decide +kernel
theorem dX0_noteContents_22 : decode cX0_noteContents 22 = .ok (.iload_n 3, 1) := by decide +kernel
theorem dX0_noteContents_23 : decode cX0_noteContents 23 = .ok (.laload, 1) := by decide +kernel
theorem dX0_noteContents_24 : decode cX0_noteContents 24 = .ok (.l2i, 1) := by decide +kernel
theorem dX0_noteContents_25 : decode cX0_noteContents 25 = .ok (.invokevirtual 115, 3) := by decide +kernel
theorem dX0_noteContents_28 : decode cX0_noteContents 28 = .ok (.iinc 3 1, 3) := by decide +kernel
theorem dX0_noteContents_31 : decode cX0_noteContents 31 = .ok (.goto (-19), 3) := by decide +kernel
theorem dX0_noteContents_34 : decode cX0_noteContents 34 = .ok (.return_, 1) := by decide +kernel
theorem dX0_noteReached_0 : decode cX0_noteReached 0 = .ok (.iload_n 1, 1) := by decide +kernel
theorem dX0_noteReached_1 : decode cX0_noteReached 1 = .ok (.iconst (-1), 1) := by decide +kernel
theorem dX0_noteReached_2 : decode cX0_noteReached 2 = .ok (.if_icmp .eq 40, 3) := by decide +kernel
theorem dX0_noteReached_5 : decode cX0_noteReached 5 = .ok (.aload_n 0, 1) := by decide +kernel
theorem dX0_noteReached_6 : decode cX0_noteReached 6 = .ok (.getfield 33, 3) := by decide +kernel
theorem dX0_noteReached_9 : decode cX0_noteReached 9 = .ok (.iload_n 1, 1) := by decide +kernel
theorem dX0_noteReached_10 : decode cX0_noteReached 10 = .ok (.iaload, 1) := by decide +kernel
theorem dX0_noteReached_11 : decode cX0_noteReached 11 = .ok (.iconst (-1), 1) := by decide +kernel
theorem dX0_noteReached_12 : decode cX0_noteReached 12 = .ok (.if_icmp .ne 30, 3) := by decide +kernel
theorem dX0_noteReached_15 : decode cX0_noteReached 15 = .ok (.aload_n 0, 1) := by decide +kernel
theorem dX0_noteReached_16 : decode cX0_noteReached 16 = .ok (.getfield 33, 3) := by decide +kernel
theorem dX0_noteReached_19 : decode cX0_noteReached 19 = .ok (.iload_n 1, 1) := by decide +kernel
theorem dX0_noteReached_20 : decode cX0_noteReached 20 = .ok (.iload_n 1, 1) := by decide +kernel
theorem dX0_noteReached_21 : decode cX0_noteReached 21 = .ok (.iastore, 1) := by decide +kernel
theorem dX0_noteReached_22 : decode cX0_noteReached 22 = .ok (.aload_n 0, 1) := by decide +kernel
theorem dX0_noteReached_23 : decode cX0_noteReached 23 = .ok (.getfield 27, 3) := by decide +kernel
theorem dX0_noteReached_26 : decode cX0_noteReached 26 = .ok (.aload_n 0, 1) := by decide +kernel
theorem dX0_noteReached_27 : decode cX0_noteReached 27 = .ok (.getfield 30, 3) := by decide +kernel
theorem dX0_noteReached_30 : decode cX0_noteReached 30 = .ok (.iload_n 1, 1) := by decide +kernel
theorem dX0_noteReached_31 : decode cX0_noteReached 31 = .ok (.iastore, 1) := by decide +kernel
theorem dX0_noteReached_32 : decode cX0_noteReached 32 = .ok (.aload_n 0, 1) := by decide +kernel
theorem dX0_noteReached_33 : decode cX0_noteReached 33 = .ok (.dup, 1) := by decide +kernel
theorem dX0_noteReached_34 : decode cX0_noteReached 34 = .ok (.getfield 30, 3) := by decide +kernel
theorem dX0_noteReached_37 : decode cX0_noteReached 37 = .ok (.iconst 1, 1) := by decide +kernel
theorem dX0_noteReached_38 : decode cX0_noteReached 38 = .ok (.iadd, 1) := by decide +kernel
theorem dX0_noteReached_39 : decode cX0_noteReached 39 = .ok (.putfield 30, 3) := by decide +kernel
theorem dX0_noteReached_42 : decode cX0_noteReached 42 = .ok (.return_, 1) := by decide +kernel
theorem dX0_planNewPlaces_0 : decode cX0_planNewPlaces 0 = .ok (.iconst 0, 1) := by decide +kernel
theorem dX0_planNewPlaces_1 : decode cX0_planNewPlaces 1 = .ok (.istore_n 1, 1) := by decide +kernel
theorem dX0_planNewPlaces_2 : decode cX0_planNewPlaces 2 = .ok (.iconst 0, 1) := by decide +kernel
theorem dX0_planNewPlaces_3 : decode cX0_planNewPlaces 3 = .ok (.istore_n 2, 1) := by decide +kernel
theorem dX0_planNewPlaces_4 : decode cX0_planNewPlaces 4 = .ok (.iconst 0, 1) := by decide +kernel
theorem dX0_planNewPlaces_5 : decode cX0_planNewPlaces 5 = .ok (.istore_n 3, 1) := by decide +kernel
theorem dX0_planNewPlaces_6 : decode cX0_planNewPlaces 6 = .ok (.iload_n 3, 1) := by decide +kernel
theorem dX0_planNewPlaces_7 : decode cX0_planNewPlaces 7 = .ok (.aload_n 0, 1) := by decide +kernel
theorem dX0_planNewPlaces_8 : decode cX0_planNewPlaces 8 = .ok (.getfield 21, 3) := by decide +kernel
theorem dX0_planNewPlaces_11 : decode cX0_planNewPlaces 11 = .ok (.if_icmp .ge 43, 3) := by decide +kernel
theorem dX0_planNewPlaces_14 : decode cX0_planNewPlaces 14 = .ok (.aload_n 0, 1) := by decide +kernel
theorem dX0_planNewPlaces_15 : decode cX0_planNewPlaces 15 = .ok (.iload_n 1, 1) := by decide +kernel
theorem dX0_planNewPlaces_16 : decode cX0_planNewPlaces 16 = .ok (.invokevirtual 121, 3) := by decide +kernel
theorem dX0_planNewPlaces_19 : decode cX0_planNewPlaces 19 = .ok (.istore 4, 2) := by decide +kernel
theorem dX0_planNewPlaces_21 : decode cX0_planNewPlaces 21 = .ok (.aload_n 0, 1) := by decide +kernel
theorem dX0_planNewPlaces_22 : decode cX0_planNewPlaces 22 = .ok (.getfield 33, 3) := by decide +kernel
theorem dX0_planNewPlaces_25 : decode cX0_planNewPlaces 25 = .ok (.iload_n 1, 1) := by decide +kernel
theorem dX0_planNewPlaces_26 : decode cX0_planNewPlaces 26 = .ok (.iaload, 1) := by decide +kernel
theorem dX0_planNewPlaces_27 : decode cX0_planNewPlaces 27 = .ok (.iconst (-1), 1) := by decide +kernel
theorem dX0_planNewPlaces_28 : decode cX0_planNewPlaces 28 = .ok (.if_icmp .eq 15, 3) := by decide +kernel
theorem dX0_planNewPlaces_31 : decode cX0_planNewPlaces 31 = .ok (.aload_n 0, 1) := by decide +kernel
theorem dX0_planNewPlaces_32 : decode cX0_planNewPlaces 32 = .ok (.getfield 33, 3) := by decide +kernel
theorem dX0_planNewPlaces_35 : decode cX0_planNewPlaces 35 = .ok (.iload_n 1, 1) := by decide +kernel
theorem dX0_planNewPlaces_36 : decode cX0_planNewPlaces 36 = .ok (.iload_n 2, 1) := by decide +kernel
theorem dX0_planNewPlaces_37 : decode cX0_planNewPlaces 37 = .ok (.iastore, 1) := by decide +kernel
theorem dX0_planNewPlaces_38 : decode cX0_planNewPlaces 38 = .ok (.iload_n 2, 1) := by decide +kernel
theorem dX0_planNewPlaces_39 : decode cX0_planNewPlaces 39 = .ok (.iload 4, 2) := by decide +kernel
theorem dX0_planNewPlaces_41 : decode cX0_planNewPlaces 41 = .ok (.iadd, 1) := by decide +kernel
theorem dX0_planNewPlaces_42 : decode cX0_planNewPlaces 42 = .ok (.istore_n 2, 1) := by decide +kernel
theorem dX0_planNewPlaces_43 : decode cX0_planNewPlaces 43 = .ok (.iload_n 1, 1) := by decide +kernel
theorem dX0_planNewPlaces_44 : decode cX0_planNewPlaces 44 = .ok (.iload 4, 2) := by decide +kernel
theorem dX0_planNewPlaces_46 : decode cX0_planNewPlaces 46 = .ok (.iadd, 1) := by decide +kernel
theorem dX0_planNewPlaces_47 : decode cX0_planNewPlaces 47 = .ok (.istore_n 1, 1) := by decide +kernel
theorem dX0_planNewPlaces_48 : decode cX0_planNewPlaces 48 = .ok (.iinc 3 1, 3) := by decide +kernel
theorem dX0_planNewPlaces_51 : decode cX0_planNewPlaces 51 = .ok (.goto (-45), 3) := by decide +kernel
theorem dX0_planNewPlaces_54 : decode cX0_planNewPlaces 54 = .ok (.iload_n 2, 1) := by decide +kernel
theorem dX0_planNewPlaces_55 : decode cX0_planNewPlaces 55 = .ok (.ireturn, 1) := by decide +kernel
theorem dX0_redirectRegisters_0 : decode cX0_redirectRegisters 0 = .ok (.iconst 0, 1) := by decide +kernel
theorem dX0_redirectRegisters_1 : decode cX0_redirectRegisters 1 = .ok (.istore_n 1, 1) := by decide +kernel
theorem dX0_redirectRegisters_2 : decode cX0_redirectRegisters 2 = .ok (.iload_n 1, 1) := by decide +kernel
theorem dX0_redirectRegisters_3 : decode cX0_redirectRegisters 3 = .ok (.bipush 16, 2) := by decide +kernel
theorem dX0_redirectRegisters_5 : decode cX0_redirectRegisters 5 = .ok (.if_icmp .ge 25, 3) := by decide +kernel
theorem dX0_redirectRegisters_8 : decode cX0_redirectRegisters 8 = .ok (.aload_n 0, 1) := by decide +kernel
theorem dX0_redirectRegisters_9 : decode cX0_redirectRegisters 9 = .ok (.getfield 13, 3) := by decide +kernel
theorem dX0_redirectRegisters_12 : decode cX0_redirectRegisters 12 = .ok (.iload_n 1, 1) := by decide +kernel
theorem dX0_redirectRegisters_13 : decode cX0_redirectRegisters 13 = .ok (.aload_n 0, 1) := by decide +kernel
theorem dX0_redirectRegisters_14 : decode cX0_redirectRegisters 14 = .ok (.aload_n 0, 1) := by decide +kernel
theorem dX0_redirectRegisters_15 : decode cX0_redirectRegisters 15 = .ok (.getfield 13, 3) := by decide +kernel
theorem dX0_redirectRegisters_18 : decode cX0_redirectRegisters 18 = .ok (.iload_n 1, 1) := by decide +kernel
theorem dX0_redirectRegisters_19 : decode cX0_redirectRegisters 19 = .ok (.iaload, 1) := by decide +kernel
theorem dX0_redirectRegisters_20 : decode cX0_redirectRegisters 20 = .ok (.invokevirtual 124, 3) := by decide +kernel
theorem dX0_redirectRegisters_23 : decode cX0_redirectRegisters 23 = .ok (.iastore, 1) := by decide +kernel
theorem dX0_redirectRegisters_24 : decode cX0_redirectRegisters 24 = .ok (.iinc 1 1, 3) := by decide +kernel
theorem dX0_redirectRegisters_27 : decode cX0_redirectRegisters 27 = .ok (.goto (-25), 3) := by decide +kernel
theorem dX0_redirectRegisters_30 : decode cX0_redirectRegisters 30 = .ok (.return_, 1) := by decide +kernel
theorem dX0_redirectContents_0 : decode cX0_redirectContents 0 = .ok (.iconst 0, 1) := by decide +kernel
theorem dX0_redirectContents_1 : decode cX0_redirectContents 1 = .ok (.istore_n 1, 1) := by decide +kernel
theorem dX0_redirectContents_2 : decode cX0_redirectContents 2 = .ok (.iload_n 1, 1) := by decide +kernel
theorem dX0_redirectContents_3 : decode cX0_redirectContents 3 = .ok (.aload_n 0, 1) := by decide +kernel
theorem dX0_redirectContents_4 : decode cX0_redirectContents 4 = .ok (.getfield 30, 3) := by decide +kernel
theorem dX0_redirectContents_7 : decode cX0_redirectContents 7 = .ok (.if_icmp .ge 30, 3) := by decide +kernel
theorem dX0_redirectContents_10 : decode cX0_redirectContents 10 = .ok (.aload_n 0, 1) := by decide +kernel
theorem dX0_redirectContents_11 : decode cX0_redirectContents 11 = .ok (.getfield 27, 3) := by decide +kernel
theorem dX0_redirectContents_14 : decode cX0_redirectContents 14 = .ok (.iload_n 1, 1) := by decide +kernel
theorem dX0_redirectContents_15 : decode cX0_redirectContents 15 = .ok (.iaload, 1) := by decide +kernel
theorem dX0_redirectContents_16 : decode cX0_redirectContents 16 = .ok (.istore_n 2, 1) := by decide +kernel
theorem dX0_redirectContents_17 : decode cX0_redirectContents 17 = .ok (.aload_n 0, 1) := by decide +kernel
theorem dX0_redirectContents_18 : decode cX0_redirectContents 18 = .ok (.iload_n 2, 1) := by decide +kernel
theorem dX0_redirectContents_19 : decode cX0_redirectContents 19 = .ok (.invokevirtual 59, 3) := by decide +kernel
theorem dX0_redirectContents_22 : decode cX0_redirectContents 22 = .ok (.iconst 2, 1) := by decide +kernel
theorem dX0_redirectContents_23 : decode cX0_redirectContents 23 = .ok (.if_icmp .eq 8, 3) := by decide +kernel
theorem dX0_redirectContents_26 : decode cX0_redirectContents 26 = .ok (.aload_n 0, 1) := by decide +kernel
theorem dX0_redirectContents_27 : decode cX0_redirectContents 27 = .ok (.iload_n 2, 1) := by decide +kernel
theorem dX0_redirectContents_28 : decode cX0_redirectContents 28 = .ok (.invokevirtual 127, 3) := by decide +kernel
theorem dX0_redirectContents_31 : decode cX0_redirectContents 31 = .ok (.iinc 1 1, 3) := by decide +kernel
theorem dX0_redirectContents_34 : decode cX0_redirectContents 34 = .ok (.goto (-32), 3) := by decide +kernel
theorem dX0_redirectContents_37 : decode cX0_redirectContents 37 = .ok (.return_, 1) := by decide +kernel
theorem dX0_redirectContentsAt_0 : decode cX0_redirectContentsAt 0 = .ok (.iload_n 1, 1) := by decide +kernel
theorem dX0_redirectContentsAt_1 : decode cX0_redirectContentsAt 1 = .ok (.aload_n 0, 1) := by decide +kernel
theorem dX0_redirectContentsAt_2 : decode cX0_redirectContentsAt 2 = .ok (.iload_n 1, 1) := by decide +kernel
theorem dX0_redirectContentsAt_3 : decode cX0_redirectContentsAt 3 = .ok (.invokevirtual 121, 3) := by decide +kernel
theorem dX0_redirectContentsAt_6 : decode cX0_redirectContentsAt 6 = .ok (.iadd, 1) := by decide +kernel
theorem dX0_redirectContentsAt_7 : decode cX0_redirectContentsAt 7 = .ok (.istore_n 2, 1) := by decide +kernel
theorem dX0_redirectContentsAt_8 : decode cX0_redirectContentsAt 8 = .ok (.iload_n 1, 1) := by decide +kernel
theorem dX0_redirectContentsAt_9 : decode cX0_redirectContentsAt 9 = .ok (.iconst 1, 1) := by decide +kernel
theorem dX0_redirectContentsAt_10 : decode cX0_redirectContentsAt 10 = .ok (.iadd, 1) := by decide +kernel
theorem dX0_redirectContentsAt_11 : decode cX0_redirectContentsAt 11 = .ok (.istore_n 3, 1) := by decide +kernel
theorem dX0_redirectContentsAt_12 : decode cX0_redirectContentsAt 12 = .ok (.iload_n 3, 1) := by decide +kernel
theorem dX0_redirectContentsAt_13 : decode cX0_redirectContentsAt 13 = .ok (.iload_n 2, 1) := by decide +kernel
theorem dX0_redirectContentsAt_14 : decode cX0_redirectContentsAt 14 = .ok (.if_icmp .ge 27, 3) := by decide +kernel
theorem dX0_redirectContentsAt_17 : decode cX0_redirectContentsAt 17 = .ok (.aload_n 0, 1) := by decide +kernel
theorem dX0_redirectContentsAt_18 : decode cX0_redirectContentsAt 18 = .ok (.getfield 9, 3) := by decide +kernel
theorem dX0_redirectContentsAt_21 : decode cX0_redirectContentsAt 21 = .ok (.iload_n 3, 1) := by decide +kernel
theorem dX0_redirectContentsAt_22 : decode cX0_redirectContentsAt 22 = .ok (.aload_n 0, 1) := by decide +kernel
theorem dX0_redirectContentsAt_23 : decode cX0_redirectContentsAt 23 = .ok (.aload_n 0, 1) := by decide +kernel
theorem dX0_redirectContentsAt_24 : decode cX0_redirectContentsAt 24 = .ok (.getfield 9, 3) := by decide +kernel
theorem dX0_redirectContentsAt_27 : decode cX0_redirectContentsAt 27 = .ok (.iload_n 3, 1) := by decide +kernel
theorem dX0_redirectContentsAt_28 : decode cX0_redirectContentsAt 28 = .ok (.laload, 1) := by decide +kernel
theorem dX0_redirectContentsAt_29 : decode cX0_redirectContentsAt 29 = .ok (.l2i, 1) := by decide +kernel
theorem dX0_redirectContentsAt_30 : decode cX0_redirectContentsAt 30 = .ok (.invokevirtual 124, 3) := by decide +kernel
theorem dX0_redirectContentsAt_33 : decode cX0_redirectContentsAt 33 = .ok (.i2l, 1) := by decide +kernel
theorem dX0_redirectContentsAt_34 : decode cX0_redirectContentsAt 34 = .ok (.lastore, 1) := by decide +kernel
theorem dX0_redirectContentsAt_35 : decode cX0_redirectContentsAt 35 = .ok (.iinc 3 1, 3) := by decide +kernel
theorem dX0_redirectContentsAt_38 : decode cX0_redirectContentsAt 38 = .ok (.goto (-26), 3) := by decide +kernel
theorem dX0_redirectContentsAt_41 : decode cX0_redirectContentsAt 41 = .ok (.return_, 1) := by decide +kernel
theorem dX0_newPlaceOf_0 : decode cX0_newPlaceOf 0 = .ok (.iload_n 1, 1) := by decide +kernel
theorem dX0_newPlaceOf_1 : decode cX0_newPlaceOf 1 = .ok (.iconst (-1), 1) := by decide +kernel
theorem dX0_newPlaceOf_2 : decode cX0_newPlaceOf 2 = .ok (.if_icmp .ne 7, 3) := by decide +kernel
theorem dX0_newPlaceOf_5 : decode cX0_newPlaceOf 5 = .ok (.iconst (-1), 1) := by decide +kernel
theorem dX0_newPlaceOf_6 : decode cX0_newPlaceOf 6 = .ok (.goto 9, 3) := by decide +kernel
theorem dX0_newPlaceOf_9 : decode cX0_newPlaceOf 9 = .ok (.aload_n 0, 1) := by decide +kernel
theorem dX0_newPlaceOf_10 : decode cX0_newPlaceOf 10 = .ok (.getfield 33, 3) := by decide +kernel
theorem dX0_newPlaceOf_13 : decode cX0_newPlaceOf 13 = .ok (.iload_n 1, 1) := by decide +kernel
theorem dX0_newPlaceOf_14 : decode cX0_newPlaceOf 14 = .ok (.iaload, 1) := by decide +kernel
theorem dX0_newPlaceOf_15 : decode cX0_newPlaceOf 15 = .ok (.ireturn, 1) := by decide +kernel
theorem dX0_moveDown_0 : decode cX0_moveDown 0 = .ok (.iconst 0, 1) := by decide +kernel
theorem dX0_moveDown_1 : decode cX0_moveDown 1 = .ok (.istore_n 1, 1) := by decide +kernel
theorem dX0_moveDown_2 : decode cX0_moveDown 2 = .ok (.iconst 0, 1) := by decide +kernel
theorem dX0_moveDown_3 : decode cX0_moveDown 3 = .ok (.istore_n 2, 1) := by decide +kernel
theorem dX0_moveDown_4 : decode cX0_moveDown 4 = .ok (.iload_n 2, 1) := by decide +kernel
theorem dX0_moveDown_5 : decode cX0_moveDown 5 = .ok (.aload_n 0, 1) := by decide +kernel
theorem dX0_moveDown_6 : decode cX0_moveDown 6 = .ok (.getfield 21, 3) := by decide +kernel
theorem dX0_moveDown_9 : decode cX0_moveDown 9 = .ok (.if_icmp .ge 48, 3) := by decide +kernel
theorem dX0_moveDown_12 : decode cX0_moveDown 12 = .ok (.aload_n 0, 1) := by decide +kernel
theorem dX0_moveDown_13 : decode cX0_moveDown 13 = .ok (.iload_n 1, 1) := by decide +kernel
theorem dX0_moveDown_14 : decode cX0_moveDown 14 = .ok (.invokevirtual 121, 3) := by decide +kernel
theorem dX0_moveDown_17 : decode cX0_moveDown 17 = .ok (.istore_n 3, 1) := by decide +kernel
theorem dX0_moveDown_18 : decode cX0_moveDown 18 = .ok (.aload_n 0, 1) := by decide +kernel
theorem dX0_moveDown_19 : decode cX0_moveDown 19 = .ok (.getfield 33, 3) := by decide +kernel
theorem dX0_moveDown_22 : decode cX0_moveDown 22 = .ok (.iload_n 1, 1) := by decide +kernel
theorem dX0_moveDown_23 : decode cX0_moveDown 23 = .ok (.iaload, 1) := by decide +kernel
theorem dX0_moveDown_24 : decode cX0_moveDown 24 = .ok (.iconst (-1), 1) := by decide +kernel
theorem dX0_moveDown_25 : decode cX0_moveDown 25 = .ok (.if_icmp .eq 22, 3) := by decide +kernel
theorem dX0_moveDown_28 : decode cX0_moveDown 28 = .ok (.aload_n 0, 1) := by decide +kernel
theorem dX0_moveDown_29 : decode cX0_moveDown 29 = .ok (.getfield 9, 3) := by decide +kernel
theorem dX0_moveDown_32 : decode cX0_moveDown 32 = .ok (.iload_n 1, 1) := by decide +kernel
theorem dX0_moveDown_33 : decode cX0_moveDown 33 = .ok (.aload_n 0, 1) := by decide +kernel
theorem dX0_moveDown_34 : decode cX0_moveDown 34 = .ok (.getfield 9, 3) := by decide +kernel
theorem dX0_moveDown_37 : decode cX0_moveDown 37 = .ok (.aload_n 0, 1) := by decide +kernel
theorem dX0_moveDown_38 : decode cX0_moveDown 38 = .ok (.getfield 33, 3) := by decide +kernel
theorem dX0_moveDown_41 : decode cX0_moveDown 41 = .ok (.iload_n 1, 1) := by decide +kernel
theorem dX0_moveDown_42 : decode cX0_moveDown 42 = .ok (.iaload, 1) := by decide +kernel
theorem dX0_moveDown_43 : decode cX0_moveDown 43 = .ok (.iload_n 3, 1) := by decide +kernel
theorem dX0_moveDown_44 : decode cX0_moveDown 44 = .ok (.invokestatic 130, 3) := by decide +kernel
theorem dX0_moveDown_47 : decode cX0_moveDown 47 = .ok (.iload_n 1, 1) := by decide +kernel
theorem dX0_moveDown_48 : decode cX0_moveDown 48 = .ok (.iload_n 3, 1) := by decide +kernel
theorem dX0_moveDown_49 : decode cX0_moveDown 49 = .ok (.iadd, 1) := by decide +kernel
theorem dX0_moveDown_50 : decode cX0_moveDown 50 = .ok (.istore_n 1, 1) := by decide +kernel
theorem dX0_moveDown_51 : decode cX0_moveDown 51 = .ok (.iinc 2 1, 3) := by decide +kernel
theorem dX0_moveDown_54 : decode cX0_moveDown 54 = .ok (.goto (-50), 3) := by decide +kernel
theorem dX0_moveDown_57 : decode cX0_moveDown 57 = .ok (.return_, 1) := by decide +kernel
theorem dJ7_fill_0 : decode cJ7_fill 0 = .ok (.iconst 0, 1) := by decide +kernel
theorem dJ7_fill_1 : decode cJ7_fill 1 = .ok (.istore_n 2, 1) := by decide +kernel
theorem dJ7_fill_2 : decode cJ7_fill 2 = .ok (.aload_n 0, 1) := by decide +kernel
theorem dJ7_fill_3 : decode cJ7_fill 3 = .ok (.arraylength, 1) := by decide +kernel
theorem dJ7_fill_4 : decode cJ7_fill 4 = .ok (.istore_n 3, 1) := by decide +kernel
theorem dJ7_fill_5 : decode cJ7_fill 5 = .ok (.iload_n 2, 1) := by decide +kernel
theorem dJ7_fill_6 : decode cJ7_fill 6 = .ok (.iload_n 3, 1) := by decide +kernel
theorem dJ7_fill_7 : decode cJ7_fill 7 = .ok (.if_icmp .ge 13, 3) := by decide +kernel
theorem dJ7_fill_10 : decode cJ7_fill 10 = .ok (.aload_n 0, 1) := by decide +kernel
theorem dJ7_fill_11 : decode cJ7_fill 11 = .ok (.iload_n 2, 1) := by decide +kernel
theorem dJ7_fill_12 : decode cJ7_fill 12 = .ok (.iload_n 1, 1) := by decide +kernel
theorem dJ7_fill_13 : decode cJ7_fill 13 = .ok (.iastore, 1) := by decide +kernel
theorem dJ7_fill_14 : decode cJ7_fill 14 = .ok (.iinc 2 1, 3) := by decide +kernel
theorem dJ7_fill_17 : decode cJ7_fill 17 = .ok (.goto (-12), 3) := by decide +kernel
theorem dJ7_fill_20 : decode cJ7_fill 20 = .ok (.return_, 1) := by decide +kernel
end
section
theorem dX1_init_0 : decode cX1_init 0 = .ok (.aload_n 0, 1) := by decide +kernel
theorem dX1_init_1 : decode cX1_init 1 = .ok (.invokespecial 1, 3) := by decide +kernel
theorem dX1_init_4 : decode cX1_init 4 = .ok (.aload_n 0, 1) := by decide +kernel
theorem dX1_init_5 : decode cX1_init 5 = .ok (.sipush 301, 3) := by decide +kernel
theorem dX1_init_8 : decode cX1_init 8 = .ok (.newarray .int, 2) := by decide +kernel
theorem dX1_init_10 : decode cX1_init 10 = .ok (.putfield 7, 3) := by decide +kernel
theorem dX1_init_13 : decode cX1_init 13 = .ok (.aload_n 0, 1) := by decide +kernel
theorem dX1_init_14 : decode cX1_init 14 = .ok (.sipush 301, 3) := by decide +kernel
theorem dX1_init_17 : decode cX1_init 17 = .ok (.newarray .int, 2) := by decide +kernel
theorem dX1_init_19 : decode cX1_init 19 = .ok (.putfield 13, 3) := by decide +kernel
theorem dX1_init_22 : decode cX1_init 22 = .ok (.aload_n 0, 1) := by decide +kernel
theorem dX1_init_23 : decode cX1_init 23 = .ok (.sipush 301, 3) := by decide +kernel
theorem dX1_init_26 : decode cX1_init 26 = .ok (.newarray .int, 2) := by decide +kernel
theorem dX1_init_28 : decode cX1_init 28 = .ok (.putfield 16, 3) := by decide +kernel
theorem dX1_init_31 : decode cX1_init 31 = .ok (.aload_n 0, 1) := by decide +kernel
theorem dX1_init_32 : decode cX1_init 32 = .ok (.sipush 12040, 3) := by decide +kernel
theorem dX1_init_35 : decode cX1_init 35 = .ok (.newarray .int, 2) := by decide +kernel
theorem dX1_init_37 : decode cX1_init 37 = .ok (.putfield 19, 3) := by decide +kernel
theorem dX1_init_40 : decode cX1_init 40 = .ok (.aload_n 0, 1) := by decide +kernel
theorem dX1_init_41 : decode cX1_init 41 = .ok (.sipush 12040, 3) := by decide +kernel
theorem dX1_init_44 : decode cX1_init 44 = .ok (.newarray .long, 2) := by decide +kernel
theorem dX1_init_46 : decode cX1_init 46 = .ok (.putfield 22, 3) := by decide +kernel
theorem dX1_init_49 : decode cX1_init 49 = .ok (.aload_n 0, 1) := by decide +kernel
theorem dX1_init_50 : decode cX1_init 50 = .ok (.sipush 301, 3) := by decide +kernel
theorem dX1_init_53 : decode cX1_init 53 = .ok (.newarray .boolean, 2) := by decide +kernel
theorem dX1_init_55 : decode cX1_init 55 = .ok (.putfield 26, 3) := by decide +kernel
theorem dX1_init_58 : decode cX1_init 58 = .ok (.aload_n 0, 1) := by decide +kernel
theorem dX1_init_59 : decode cX1_init 59 = .ok (.bipush 16, 2) := by decide +kernel
theorem dX1_init_61 : decode cX1_init 61 = .ok (.newarray .int, 2) := by decide +kernel
theorem dX1_init_63 : decode cX1_init 63 = .ok (.putfield 30, 3) := by decide +kernel
theorem dX1_init_66 : decode cX1_init 66 = .ok (.aload_n 0, 1) := by decide +kernel
theorem dX1_init_67 : decode cX1_init 67 = .ok (.sipush 301, 3) := by decide +kernel
theorem dX1_init_70 : decode cX1_init 70 = .ok (.newarray .int, 2) := by decide +kernel
theorem dX1_init_72 : decode cX1_init 72 = .ok (.putfield 33, 3) := by decide +kernel
theorem dX1_init_75 : decode cX1_init 75 = .ok (.return_, 1) := by decide +kernel
theorem dX1_thrown_0 : decode cX1_thrown 0 = .ok (.aload_n 0, 1) := by decide +kernel
theorem dX1_thrown_1 : decode cX1_thrown 1 = .ok (.getfield 36, 3) := by decide +kernel
theorem dX1_thrown_4 : decode cX1_thrown 4 = .ok (.ireturn, 1) := by decide +kernel
theorem dX1_isRegister_0 : decode cX1_isRegister 0 = .ok (.iload_n 1, 1) := by decide +kernel
theorem dX1_isRegister_1 : decode cX1_isRegister 1 = .ok (.ifCond .lt 13, 3) := by decide +kernel
theorem dX1_isRegister_4 : decode cX1_isRegister 4 = .ok (.iload_n 1, 1) := by decide +kernel
theorem dX1_isRegister_5 : decode cX1_isRegister 5 = .ok (.bipush 16, 2) := by decide +kernel
theorem dX1_isRegister_7 : decode cX1_isRegister 7 = .ok (.if_icmp .ge 7, 3) := by decide +kernel
theorem dX1_isRegister_10 : decode cX1_isRegister 10 = .ok (.iconst 1, 1) := by decide +kernel
theorem dX1_isRegister_11 : decode cX1_isRegister 11 = .ok (.goto 4, 3) := by decide +kernel
theorem dX1_isRegister_14 : decode cX1_isRegister 14 = .ok (.iconst 0, 1) := by decide +kernel
theorem dX1_isRegister_15 : decode cX1_isRegister 15 = .ok (.ireturn, 1) := by decide +kernel
theorem dX1_cellsOf_0 : decode cX1_cellsOf 0 = .ok (.iconst 1, 1) := by decide +kernel
theorem dX1_cellsOf_1 : decode cX1_cellsOf 1 = .ok (.aload_n 0, 1) := by decide +kernel
theorem dX1_cellsOf_2 : decode cX1_cellsOf 2 = .ok (.getfield 7, 3) := by decide +kernel
theorem dX1_cellsOf_5 : decode cX1_cellsOf 5 = .ok (.iload_n 1, 1) := by decide +kernel
theorem dX1_cellsOf_6 : decode cX1_cellsOf 6 = .ok (.iaload, 1) := by decide +kernel
theorem dX1_cellsOf_7 : decode cX1_cellsOf 7 = .ok (.iconst 3, 1) := by decide +kernel
theorem dX1_cellsOf_8 : decode cX1_cellsOf 8 = .ok (.if_icmp .ne 7, 3) := by decide +kernel
theorem dX1_cellsOf_11 : decode cX1_cellsOf 11 = .ok (.iconst 1, 1) := by decide +kernel
theorem dX1_cellsOf_12 : decode cX1_cellsOf 12 = .ok (.goto 9, 3) := by decide +kernel
theorem dX1_cellsOf_15 : decode cX1_cellsOf 15 = .ok (.aload_n 0, 1) := by decide +kernel
theorem dX1_cellsOf_16 : decode cX1_cellsOf 16 = .ok (.getfield 13, 3) := by decide +kernel
theorem dX1_cellsOf_19 : decode cX1_cellsOf 19 = .ok (.iload_n 1, 1) := by decide +kernel
theorem dX1_cellsOf_20 : decode cX1_cellsOf 20 = .ok (.iaload, 1) := by decide +kernel
theorem dX1_cellsOf_21 : decode cX1_cellsOf 21 = .ok (.iadd, 1) := by decide +kernel
theorem dX1_cellsOf_22 : decode cX1_cellsOf 22 = .ok (.ireturn, 1) := by decide +kernel
theorem dX1_cells_0 : decode cX1_cells 0 = .ok (.iconst 0, 1) := by decide +kernel
theorem dX1_cells_1 : decode cX1_cells 1 = .ok (.istore_n 1, 1) := by decide +kernel
theorem dX1_cells_2 : decode cX1_cells 2 = .ok (.iconst 0, 1) := by decide +kernel
theorem dX1_cells_3 : decode cX1_cells 3 = .ok (.istore_n 2, 1) := by decide +kernel
theorem dX1_cells_4 : decode cX1_cells 4 = .ok (.iload_n 2, 1) := by decide +kernel
theorem dX1_cells_5 : decode cX1_cells 5 = .ok (.aload_n 0, 1) := by decide +kernel
theorem dX1_cells_6 : decode cX1_cells 6 = .ok (.getfield 40, 3) := by decide +kernel
theorem dX1_cells_9 : decode cX1_cells 9 = .ok (.if_icmp .ge 22, 3) := by decide +kernel
theorem dX1_cells_12 : decode cX1_cells 12 = .ok (.iload_n 1, 1) := by decide +kernel
theorem dX1_cells_13 : decode cX1_cells 13 = .ok (.aload_n 0, 1) := by decide +kernel
theorem dX1_cells_14 : decode cX1_cells 14 = .ok (.aload_n 0, 1) := by decide +kernel
theorem dX1_cells_15 : decode cX1_cells 15 = .ok (.getfield 16, 3) := by decide +kernel
theorem dX1_cells_18 : decode cX1_cells 18 = .ok (.iload_n 2, 1) := by decide +kernel
theorem dX1_cells_19 : decode cX1_cells 19 = .ok (.iaload, 1) := by decide +kernel
theorem dX1_cells_20 : decode cX1_cells 20 = .ok (.invokevirtual 43, 3) := by decide +kernel
theorem dX1_cells_23 : decode cX1_cells 23 = .ok (.iadd, 1) := by decide +kernel
theorem dX1_cells_24 : decode cX1_cells 24 = .ok (.istore_n 1, 1) := by decide +kernel
theorem dX1_cells_25 : decode cX1_cells 25 = .ok (.iinc 2 1, 3) := by decide +kernel
theorem dX1_cells_28 : decode cX1_cells 28 = .ok (.goto (-24), 3) := by decide +kernel
theorem dX1_cells_31 : decode cX1_cells 31 = .ok (.iload_n 1, 1) := by decide +kernel
theorem dX1_cells_32 : decode cX1_cells 32 = .ok (.ireturn, 1) := by decide +kernel
theorem dX1_placeOf_0 : decode cX1_placeOf 0 = .ok (.iconst 0, 1) := by decide +kernel
theorem dX1_placeOf_1 : decode cX1_placeOf 1 = .ok (.istore_n 2, 1) := by decide +kernel
theorem dX1_placeOf_2 : decode cX1_placeOf 2 = .ok (.iconst 0, 1) := by decide +kernel
theorem dX1_placeOf_3 : decode cX1_placeOf 3 = .ok (.istore_n 3, 1) := by decide +kernel
theorem dX1_placeOf_4 : decode cX1_placeOf 4 = .ok (.aload_n 0, 1) := by decide +kernel
theorem dX1_placeOf_5 : decode cX1_placeOf 5 = .ok (.getfield 16, 3) := by decide +kernel
theorem dX1_placeOf_8 : decode cX1_placeOf 8 = .ok (.iload_n 3, 1) := by decide +kernel
theorem dX1_placeOf_9 : decode cX1_placeOf 9 = .ok (.iaload, 1) := by decide +kernel
theorem dX1_placeOf_10 : decode cX1_placeOf 10 = .ok (.iload_n 1, 1) := by decide +kernel
theorem dX1_placeOf_11 : decode cX1_placeOf 11 = .ok (.if_icmp .eq 22, 3) := by decide +kernel
theorem dX1_placeOf_14 : decode cX1_placeOf 14 = .ok (.iload_n 2, 1) := by decide +kernel
theorem dX1_placeOf_15 : decode cX1_placeOf 15 = .ok (.aload_n 0, 1) := by decide +kernel
theorem dX1_placeOf_16 : decode cX1_placeOf 16 = .ok (.aload_n 0, 1) := by decide +kernel
theorem dX1_placeOf_17 : decode cX1_placeOf 17 = .ok (.getfield 16, 3) := by decide +kernel
theorem dX1_placeOf_20 : decode cX1_placeOf 20 = .ok (.iload_n 3, 1) := by decide +kernel
theorem dX1_placeOf_21 : decode cX1_placeOf 21 = .ok (.iaload, 1) := by decide +kernel
theorem dX1_placeOf_22 : decode cX1_placeOf 22 = .ok (.invokevirtual 43, 3) := by decide +kernel
theorem dX1_placeOf_25 : decode cX1_placeOf 25 = .ok (.iadd, 1) := by decide +kernel
theorem dX1_placeOf_26 : decode cX1_placeOf 26 = .ok (.istore_n 2, 1) := by decide +kernel
theorem dX1_placeOf_27 : decode cX1_placeOf 27 = .ok (.iinc 3 1, 3) := by decide +kernel
theorem dX1_placeOf_30 : decode cX1_placeOf 30 = .ok (.goto (-26), 3) := by decide +kernel
theorem dX1_placeOf_33 : decode cX1_placeOf 33 = .ok (.iload_n 2, 1) := by decide +kernel
theorem dX1_placeOf_34 : decode cX1_placeOf 34 = .ok (.ireturn, 1) := by decide +kernel
theorem dX1_reach_0 : decode cX1_reach 0 = .ok (.iload_n 1, 1) := by decide +kernel
theorem dX1_reach_1 : decode cX1_reach 1 = .ok (.ifCond .eq 12, 3) := by decide +kernel
theorem dX1_reach_4 : decode cX1_reach 4 = .ok (.aload_n 0, 1) := by decide +kernel
theorem dX1_reach_5 : decode cX1_reach 5 = .ok (.getfield 26, 3) := by decide +kernel
theorem dX1_reach_8 : decode cX1_reach 8 = .ok (.iload_n 1, 1) := by decide +kernel
theorem dX1_reach_9 : decode cX1_reach 9 = .ok (.baload, 1) := by decide +kernel
theorem dX1_reach_10 : decode cX1_reach 10 = .ok (.ifCond .eq 4, 3) := by decide +kernel
theorem dX1_reach_13 : decode cX1_reach 13 = .ok (.return_, 1) := by decide +kernel
theorem dX1_reach_14 : decode cX1_reach 14 = .ok (.aload_n 0, 1) := by decide +kernel
theorem dX1_reach_15 : decode cX1_reach 15 = .ok (.getfield 26, 3) := by decide +kernel
theorem dX1_reach_18 : decode cX1_reach 18 = .ok (.iload_n 1, 1) := by decide +kernel
theorem dX1_reach_19 : decode cX1_reach 19 = .ok (.iconst 1, 1) := by decide +kernel
theorem dX1_reach_20 : decode cX1_reach 20 = .ok (.bastore, 1) := by decide +kernel
theorem dX1_reach_21 : decode cX1_reach 21 = .ok (.aload_n 0, 1) := by decide +kernel
theorem dX1_reach_22 : decode cX1_reach 22 = .ok (.getfield 33, 3) := by decide +kernel
theorem dX1_reach_25 : decode cX1_reach 25 = .ok (.aload_n 0, 1) := by decide +kernel
theorem dX1_reach_26 : decode cX1_reach 26 = .ok (.getfield 47, 3) := by decide +kernel
theorem dX1_reach_29 : decode cX1_reach 29 = .ok (.iload_n 1, 1) := by decide +kernel
theorem dX1_reach_30 : decode cX1_reach 30 = .ok (.iastore, 1) := by decide +kernel
theorem dX1_reach_31 : decode cX1_reach 31 = .ok (.aload_n 0, 1) := by decide +kernel
theorem dX1_reach_32 : decode cX1_reach 32 = .ok (.dup, 1) := by decide +kernel
theorem dX1_reach_33 : decode cX1_reach 33 = .ok (.getfield 47, 3) := by decide +kernel
theorem dX1_reach_36 : decode cX1_reach 36 = .ok (.iconst 1, 1) := by decide +kernel
theorem dX1_reach_37 : decode cX1_reach 37 = .ok (.iadd, 1) := by decide +kernel
theorem dX1_reach_38 : decode cX1_reach 38 = .ok (.putfield 47, 3) := by decide +kernel
theorem dX1_reach_41 : decode cX1_reach 41 = .ok (.return_, 1) := by decide +kernel
theorem dX1_collect_0 : decode cX1_collect 0 = .ok (.aload_n 0, 1) := by decide +kernel
theorem dX1_collect_1 : decode cX1_collect 1 = .ok (.iconst 0, 1) := by decide +kernel
theorem dX1_collect_2 : decode cX1_collect 2 = .ok (.putfield 36, 3) := by decide +kernel
theorem dX1_collect_5 : decode cX1_collect 5 = .ok (.aload_n 0, 1) := by decide +kernel
theorem dX1_collect_6 : decode cX1_collect 6 = .ok (.dup, 1) := by decide +kernel
theorem dX1_collect_7 : decode cX1_collect 7 = .ok (.getfield 50, 3) := by decide +kernel
theorem dX1_collect_10 : decode cX1_collect 10 = .ok (.iconst 1, 1) := by decide +kernel
theorem dX1_collect_11 : decode cX1_collect 11 = .ok (.iadd, 1) := by decide +kernel
theorem dX1_collect_12 : decode cX1_collect 12 = .ok (.putfield 50, 3) := by decide +kernel
theorem dX1_collect_15 : decode cX1_collect 15 = .ok (.iconst 0, 1) := by decide +kernel
theorem dX1_collect_16 : decode cX1_collect 16 = .ok (.istore_n 1, 1) := by decide +kernel
theorem dX1_collect_17 : decode cX1_collect 17 = .ok (.iload_n 1, 1) := by decide +kernel
theorem dX1_collect_18 : decode cX1_collect 18 = .ok (.sipush 300, 3) := by decide +kernel
theorem dX1_collect_21 : decode cX1_collect 21 = .ok (.if_icmp .gt 16, 3) := by decide +kernel
theorem dX1_collect_24 : decode cX1_collect 24 = .ok (.aload_n 0, 1) := by decide +kernel
theorem dX1_collect_25 : decode cX1_collect 25 = .ok (.getfield 26, 3) := by decide +kernel
theorem dX1_collect_28 : decode cX1_collect 28 = .ok (.iload_n 1, 1) := by decide +kernel
theorem dX1_collect_29 : decode cX1_collect 29 = .ok (.iconst 0, 1) := by decide +kernel
theorem dX1_collect_30 : decode cX1_collect 30 = .ok (.bastore, 1) := by decide +kernel
theorem dX1_collect_31 : decode cX1_collect 31 = .ok (.iinc 1 1, 3) := by decide +kernel
theorem dX1_collect_34 : decode cX1_collect 34 = .ok (.goto (-17), 3) := by decide +kernel
theorem dX1_collect_37 : decode cX1_collect 37 = .ok (.aload_n 0, 1) := by decide +kernel
theorem dX1_collect_38 : decode cX1_collect 38 = .ok (.iconst 0, 1) := by decide +kernel
theorem dX1_collect_39 : decode cX1_collect 39 = .ok (.putfield 47, 3) := by decide +kernel
theorem dX1_collect_42 : decode cX1_collect 42 = .ok (.iconst 0, 1) := by decide +kernel
theorem dX1_collect_43 : decode cX1_collect 43 = .ok (.istore_n 1, 1) := by decide +kernel
theorem dX1_collect_44 : decode cX1_collect 44 = .ok (.iload_n 1, 1) := by decide +kernel
theorem dX1_collect_45 : decode cX1_collect 45 = .ok (.bipush 16, 2) := by decide +kernel
theorem dX1_collect_47 : decode cX1_collect 47 = .ok (.if_icmp .ge 19, 3) := by decide +kernel
theorem dX1_collect_50 : decode cX1_collect 50 = .ok (.aload_n 0, 1) := by decide +kernel
theorem dX1_collect_51 : decode cX1_collect 51 = .ok (.aload_n 0, 1) := by decide +kernel
theorem dX1_collect_52 : decode cX1_collect 52 = .ok (.getfield 30, 3) := by decide +kernel
theorem dX1_collect_55 : decode cX1_collect 55 = .ok (.iload_n 1, 1) := by decide +kernel
theorem dX1_collect_56 : decode cX1_collect 56 = .ok (.iaload, 1) := by decide +kernel
theorem dX1_collect_57 : decode cX1_collect 57 = .ok (.invokevirtual 53, 3) := by decide +kernel
theorem dX1_collect_60 : decode cX1_collect 60 = .ok (.iinc 1 1, 3) := by decide +kernel
theorem dX1_collect_63 : decode cX1_collect 63 = .ok (.goto (-19), 3) := by decide +kernel
theorem dX1_collect_66 : decode cX1_collect 66 = .ok (.aload_n 0, 1) := by decide +kernel
theorem dX1_collect_67 : decode cX1_collect 67 = .ok (.getfield 47, 3) := by decide +kernel
theorem dX1_collect_70 : decode cX1_collect 70 = .ok (.ifCond .le 69, 3) := by decide +kernel
theorem dX1_collect_73 : decode cX1_collect 73 = .ok (.aload_n 0, 1) := by decide +kernel
theorem dX1_collect_74 : decode cX1_collect 74 = .ok (.dup, 1) := by decide +kernel
theorem dX1_collect_75 : decode cX1_collect 75 = .ok (.getfield 47, 3) := by decide +kernel
theorem dX1_collect_78 : decode cX1_collect 78 = .ok (.iconst 1, 1) := by decide +kernel
theorem dX1_collect_79 : decode cX1_collect 79 = .ok (.isub, 1) := by decide +kernel
theorem dX1_collect_80 : decode cX1_collect 80 = .ok (.putfield 47, 3) := by decide +kernel
theorem dX1_collect_83 : decode cX1_collect 83 = .ok (.aload_n 0, 1) := by decide +kernel
theorem dX1_collect_84 : decode cX1_collect 84 = .ok (.getfield 33, 3) := by decide +kernel
theorem dX1_collect_87 : decode cX1_collect 87 = .ok (.aload_n 0, 1) := by decide +kernel
theorem dX1_collect_88 : decode cX1_collect 88 = .ok (.getfield 47, 3) := by decide +kernel
theorem dX1_collect_91 : decode cX1_collect 91 = .ok (.iaload, 1) := by decide +kernel
theorem dX1_collect_92 : decode cX1_collect 92 = .ok (.istore_n 1, 1) := by decide +kernel
theorem dX1_collect_93 : decode cX1_collect 93 = .ok (.iconst 0, 1) := by decide +kernel
theorem dX1_collect_94 : decode cX1_collect 94 = .ok (.istore_n 2, 1) := by decide +kernel
theorem dX1_collect_95 : decode cX1_collect 95 = .ok (.aload_n 0, 1) := by decide +kernel
theorem dX1_collect_96 : decode cX1_collect 96 = .ok (.getfield 7, 3) := by decide +kernel
theorem dX1_collect_99 : decode cX1_collect 99 = .ok (.iload_n 1, 1) := by decide +kernel
theorem dX1_collect_100 : decode cX1_collect 100 = .ok (.iaload, 1) := by decide +kernel
theorem dX1_collect_101 : decode cX1_collect 101 = .ok (.iconst 1, 1) := by decide +kernel
theorem dX1_collect_102 : decode cX1_collect 102 = .ok (.if_icmp .ne 34, 3) := by decide +kernel
theorem dX1_collect_105 : decode cX1_collect 105 = .ok (.iload_n 2, 1) := by decide +kernel
theorem dX1_collect_106 : decode cX1_collect 106 = .ok (.aload_n 0, 1) := by decide +kernel
theorem dX1_collect_107 : decode cX1_collect 107 = .ok (.getfield 13, 3) := by decide +kernel
theorem dX1_collect_110 : decode cX1_collect 110 = .ok (.iload_n 1, 1) := by decide +kernel
theorem dX1_collect_111 : decode cX1_collect 111 = .ok (.iaload, 1) := by decide +kernel
theorem dX1_collect_112 : decode cX1_collect 112 = .ok (.if_icmp .ge 24, 3) := by decide +kernel
theorem dX1_collect_115 : decode cX1_collect 115 = .ok (.aload_n 0, 1) := by decide +kernel
theorem dX1_collect_116 : decode cX1_collect 116 = .ok (.aload_n 0, 1) := by decide +kernel
theorem dX1_collect_117 : decode cX1_collect 117 = .ok (.getfield 19, 3) := by decide +kernel
theorem dX1_collect_120 : decode cX1_collect 120 = .ok (.bipush 40, 2) := by decide +kernel
theorem dX1_collect_122 : decode cX1_collect 122 = .ok (.iload_n 1, 1) := by decide +kernel
theorem dX1_collect_123 : decode cX1_collect 123 = .ok (.imul, 1) := by decide +kernel
theorem dX1_collect_124 : decode cX1_collect 124 = .ok (.iload_n 2, 1) := by decide +kernel
theorem dX1_collect_125 : decode cX1_collect 125 = .ok (.iadd, 1) := by decide +kernel
theorem dX1_collect_126 : decode cX1_collect 126 = .ok (.iaload, 1) := by decide +kernel
theorem dX1_collect_127 : decode cX1_collect 127 = .ok (.invokevirtual 53, 3) := by decide +kernel
theorem dX1_collect_130 : decode cX1_collect 130 = .ok (.iinc 2 1, 3) := by decide +kernel
theorem dX1_collect_133 : decode cX1_collect 133 = .ok (.goto (-38), 3) := by decide +kernel
theorem dX1_collect_136 : decode cX1_collect 136 = .ok (.goto (-70), 3) := by decide +kernel
theorem dX1_collect_139 : decode cX1_collect 139 = .ok (.iconst 0, 1) := by decide +kernel
theorem dX1_collect_140 : decode cX1_collect 140 = .ok (.istore_n 1, 1) := by decide +kernel
theorem dX1_collect_141 : decode cX1_collect 141 = .ok (.iconst 0, 1) := by decide +kernel
theorem dX1_collect_142 : decode cX1_collect 142 = .ok (.istore_n 2, 1) := by decide +kernel
theorem dX1_collect_143 : decode cX1_collect 143 = .ok (.iconst 0, 1) := by decide +kernel
theorem dX1_collect_144 : decode cX1_collect 144 = .ok (.istore_n 3, 1) := by decide +kernel
theorem dX1_collect_145 : decode cX1_collect 145 = .ok (.iload_n 3, 1) := by decide +kernel
theorem dX1_collect_146 : decode cX1_collect 146 = .ok (.aload_n 0, 1) := by decide +kernel
theorem dX1_collect_147 : decode cX1_collect 147 = .ok (.getfield 40, 3) := by decide +kernel
theorem dX1_collect_150 : decode cX1_collect 150 = .ok (.if_icmp .ge 92, 3) := by decide +kernel
theorem dX1_collect_153 : decode cX1_collect 153 = .ok (.aload_n 0, 1) := by decide +kernel
theorem dX1_collect_154 : decode cX1_collect 154 = .ok (.getfield 16, 3) := by decide +kernel
theorem dX1_collect_157 : decode cX1_collect 157 = .ok (.iload_n 3, 1) := by decide +kernel
theorem dX1_collect_158 : decode cX1_collect 158 = .ok (.iaload, 1) := by decide +kernel
theorem dX1_collect_159 : decode cX1_collect 159 = .ok (.istore 4, 2) := by decide +kernel
theorem dX1_collect_161 : decode cX1_collect 161 = .ok (.aload_n 0, 1) := by decide +kernel
theorem dX1_collect_162 : decode cX1_collect 162 = .ok (.getfield 26, 3) := by decide +kernel
theorem dX1_collect_165 : decode cX1_collect 165 = .ok (.iload 4, 2) := by decide +kernel
theorem dX1_collect_167 : decode cX1_collect 167 = .ok (.baload, 1) := by decide +kernel
theorem dX1_collect_168 : decode cX1_collect 168 = .ok (.ifCond .ne 17, 3) := by decide +kernel
theorem dX1_collect_171 : decode cX1_collect 171 = .ok (.aload_n 0, 1) := by decide +kernel
theorem dX1_collect_172 : decode cX1_collect 172 = .ok (.getfield 7, 3) := by decide +kernel
theorem dX1_collect_175 : decode cX1_collect 175 = .ok (.iload 4, 2) := by decide +kernel
theorem dX1_collect_177 : decode cX1_collect 177 = .ok (.iconst 0, 1) := by decide +kernel
theorem dX1_collect_178 : decode cX1_collect 178 = .ok (.iastore, 1) := by decide +kernel
theorem dX1_collect_179 : decode cX1_collect 179 = .ok (.iinc 2 1, 3) := by decide +kernel
theorem dX1_collect_182 : decode cX1_collect 182 = .ok (.goto 54, 3) := by decide +kernel
theorem dX1_collect_185 : decode cX1_collect 185 = .ok (.aload_n 0, 1) := by decide +kernel
theorem dX1_collect_186 : decode cX1_collect 186 = .ok (.getfield 7, 3) := by decide +kernel
theorem dX1_collect_189 : decode cX1_collect 189 = .ok (.iload 4, 2) := by decide +kernel
theorem dX1_collect_191 : decode cX1_collect 191 = .ok (.iaload, 1) := by decide +kernel
theorem dX1_collect_192 : decode cX1_collect 192 = .ok (.iconst 3, 1) := by decide +kernel
theorem dX1_collect_193 : decode cX1_collect 193 = .ok (.if_icmp .ne 32, 3) := by decide +kernel
theorem dX1_collect_196 : decode cX1_collect 196 = .ok (.aload_n 0, 1) := by decide +kernel
theorem dX1_collect_197 : decode cX1_collect 197 = .ok (.getfield 26, 3) := by decide +kernel
theorem dX1_collect_200 : decode cX1_collect 200 = .ok (.aload_n 0, 1) := by decide +kernel
theorem dX1_collect_201 : decode cX1_collect 201 = .ok (.getfield 19, 3) := by decide +kernel
theorem dX1_collect_204 : decode cX1_collect 204 = .ok (.bipush 40, 2) := by decide +kernel
theorem dX1_collect_206 : decode cX1_collect 206 = .ok (.iload 4, 2) := by decide +kernel
theorem dX1_collect_208 : decode cX1_collect 208 = .ok (.imul, 1) := by decide +kernel
theorem dX1_collect_209 : decode cX1_collect 209 = .ok (.iaload, 1) := by decide +kernel
theorem dX1_collect_210 : decode cX1_collect 210 = .ok (.baload, 1) := by decide +kernel
theorem dX1_collect_211 : decode cX1_collect 211 = .ok (.ifCond .ne 14, 3) := by decide +kernel
theorem dX1_collect_214 : decode cX1_collect 214 = .ok (.aload_n 0, 1) := by decide +kernel
theorem dX1_collect_215 : decode cX1_collect 215 = .ok (.getfield 19, 3) := by decide +kernel
theorem dX1_collect_218 : decode cX1_collect 218 = .ok (.bipush 40, 2) := by decide +kernel
theorem dX1_collect_220 : decode cX1_collect 220 = .ok (.iload 4, 2) := by decide +kernel
theorem dX1_collect_222 : decode cX1_collect 222 = .ok (.imul, 1) := by decide +kernel
theorem dX1_collect_223 : decode cX1_collect 223 = .ok (.iconst 0, 1) := by decide +kernel
theorem dX1_collect_224 : decode cX1_collect 224 = .ok (.iastore, 1) := by decide +kernel
theorem dX1_collect_225 : decode cX1_collect 225 = .ok (.aload_n 0, 1) := by decide +kernel
theorem dX1_collect_226 : decode cX1_collect 226 = .ok (.getfield 16, 3) := by decide +kernel
theorem dX1_collect_229 : decode cX1_collect 229 = .ok (.iload_n 1, 1) := by decide +kernel
theorem dX1_collect_230 : decode cX1_collect 230 = .ok (.iload 4, 2) := by decide +kernel
theorem dX1_collect_232 : decode cX1_collect 232 = .ok (.iastore, 1) := by decide +kernel
theorem dX1_collect_233 : decode cX1_collect 233 = .ok (.iinc 1 1, 3) := by decide +kernel
theorem dX1_collect_236 : decode cX1_collect 236 = .ok (.iinc 3 1, 3) := by decide +kernel
theorem dX1_collect_239 : decode cX1_collect 239 = .ok (.goto (-94), 3) := by decide +kernel
theorem dX1_collect_242 : decode cX1_collect 242 = .ok (.aload_n 0, 1) := by decide +kernel
theorem dX1_collect_243 : decode cX1_collect 243 = .ok (.iload_n 1, 1) := by decide +kernel
theorem dX1_collect_244 : decode cX1_collect 244 = .ok (.putfield 40, 3) := by decide +kernel
theorem dX1_collect_247 : decode cX1_collect 247 = .ok (.iload_n 2, 1) := by decide +kernel
theorem dX1_collect_248 : decode cX1_collect 248 = .ok (.ireturn, 1) := by decide +kernel
theorem dX1_made_0 : decode cX1_made 0 = .ok (.iconst 1, 1) := by decide +kernel
theorem dX1_made_1 : decode cX1_made 1 = .ok (.iload_n 1, 1) := by decide +kernel
theorem dX1_made_2 : decode cX1_made 2 = .ok (.iconst 3, 1) := by decide +kernel
theorem dX1_made_3 : decode cX1_made 3 = .ok (.if_icmp .ne 7, 3) := by decide +kernel
theorem dX1_made_6 : decode cX1_made 6 = .ok (.iconst 1, 1) := by decide +kernel
theorem dX1_made_7 : decode cX1_made 7 = .ok (.goto 4, 3) := by decide +kernel
theorem dX1_made_10 : decode cX1_made 10 = .ok (.iload_n 2, 1) := by decide +kernel
theorem dX1_made_11 : decode cX1_made 11 = .ok (.iadd, 1) := by decide +kernel
theorem dX1_made_12 : decode cX1_made 12 = .ok (.istore_n 3, 1) := by decide +kernel
theorem dX1_made_13 : decode cX1_made 13 = .ok (.aload_n 0, 1) := by decide +kernel
theorem dX1_made_14 : decode cX1_made 14 = .ok (.invokevirtual 57, 3) := by decide +kernel
theorem dX1_made_17 : decode cX1_made 17 = .ok (.iload_n 3, 1) := by decide +kernel
theorem dX1_made_18 : decode cX1_made 18 = .ok (.iadd, 1) := by decide +kernel
theorem dX1_made_19 : decode cX1_made 19 = .ok (.sipush 300, 3) := by decide +kernel
theorem dX1_made_22 : decode cX1_made 22 = .ok (.if_icmp .le 9, 3) := by decide +kernel
theorem dX1_made_25 : decode cX1_made 25 = .ok (.aload_n 0, 1) := by decide +kernel
theorem dX1_made_26 : decode cX1_made 26 = .ok (.invokevirtual 61, 3) := by decide +kernel
theorem dX1_made_29 : decode cX1_made 29 = .ok (.istore 4, 2) := by decide +kernel
theorem dX1_made_31 : decode cX1_made 31 = .ok (.aload_n 0, 1) := by decide +kernel
theorem dX1_made_32 : decode cX1_made 32 = .ok (.invokevirtual 57, 3) := by decide +kernel
theorem dX1_made_35 : decode cX1_made 35 = .ok (.iload_n 3, 1) := by decide +kernel
theorem dX1_made_36 : decode cX1_made 36 = .ok (.iadd, 1) := by decide +kernel
theorem dX1_made_37 : decode cX1_made 37 = .ok (.sipush 300, 3) := by decide +kernel
theorem dX1_made_40 : decode cX1_made 40 = .ok (.if_icmp .le 5, 3) := by decide +kernel
theorem dX1_made_43 : decode cX1_made 43 = .ok (.iconst 0, 1) := by decide +kernel
theorem dX1_made_44 : decode cX1_made 44 = .ok (.ireturn, 1) := by decide +kernel
theorem dX1_made_45 : decode cX1_made 45 = .ok (.iconst 1, 1) := by decide +kernel
theorem dX1_made_46 : decode cX1_made 46 = .ok (.istore 4, 2) := by decide +kernel
theorem dX1_made_48 : decode cX1_made 48 = .ok (.aload_n 0, 1) := by decide +kernel
theorem dX1_made_49 : decode cX1_made 49 = .ok (.getfield 7, 3) := by decide +kernel
theorem dX1_made_52 : decode cX1_made 52 = .ok (.iload 4, 2) := by decide +kernel
theorem dX1_made_54 : decode cX1_made 54 = .ok (.iaload, 1) := by decide +kernel
theorem dX1_made_55 : decode cX1_made 55 = .ok (.ifCond .eq 9, 3) := by decide +kernel
theorem dX1_made_58 : decode cX1_made 58 = .ok (.iinc 4 1, 3) := by decide +kernel
theorem dX1_made_61 : decode cX1_made 61 = .ok (.goto (-13), 3) := by decide +kernel
theorem dX1_made_64 : decode cX1_made 64 = .ok (.aload_n 0, 1) := by decide +kernel
theorem dX1_made_65 : decode cX1_made 65 = .ok (.getfield 7, 3) := by decide +kernel
theorem dX1_made_68 : decode cX1_made 68 = .ok (.iload 4, 2) := by decide +kernel
theorem dX1_made_70 : decode cX1_made 70 = .ok (.iload_n 1, 1) := by decide +kernel
theorem dX1_made_71 : decode cX1_made 71 = .ok (.iastore, 1) := by decide +kernel
theorem dX1_made_72 : decode cX1_made 72 = .ok (.aload_n 0, 1) := by decide +kernel
theorem dX1_made_73 : decode cX1_made 73 = .ok (.getfield 13, 3) := by decide +kernel
theorem dX1_made_76 : decode cX1_made 76 = .ok (.iload 4, 2) := by decide +kernel
theorem dX1_made_78 : decode cX1_made 78 = .ok (.iload_n 2, 1) := by decide +kernel
theorem dX1_made_79 : decode cX1_made 79 = .ok (.iastore, 1) := by decide +kernel
theorem dX1_made_80 : decode cX1_made 80 = .ok (.iconst 0, 1) := by decide +kernel
theorem dX1_made_81 : decode cX1_made 81 = .ok (.istore 5, 2) := by decide +kernel
theorem dX1_made_83 : decode cX1_made 83 = .ok (.iload 5, 2) := by decide +kernel
theorem dX1_made_85 : decode cX1_made 85 = .ok (.bipush 40, 2) := by decide +kernel
theorem dX1_made_87 : decode cX1_made 87 = .ok (.if_icmp .ge 37, 3) := by decide +kernel
theorem dX1_made_90 : decode cX1_made 90 = .ok (.aload_n 0, 1) := by decide +kernel
theorem dX1_made_91 : decode cX1_made 91 = .ok (.getfield 19, 3) := by decide +kernel
theorem dX1_made_94 : decode cX1_made 94 = .ok (.bipush 40, 2) := by decide +kernel
theorem dX1_made_96 : decode cX1_made 96 = .ok (.iload 4, 2) := by decide +kernel
theorem dX1_made_98 : decode cX1_made 98 = .ok (.imul, 1) := by decide +kernel
theorem dX1_made_99 : decode cX1_made 99 = .ok (.iload 5, 2) := by decide +kernel
theorem dX1_made_101 : decode cX1_made 101 = .ok (.iadd, 1) := by decide +kernel
theorem dX1_made_102 : decode cX1_made 102 = .ok (.iconst 0, 1) := by decide +kernel
theorem dX1_made_103 : decode cX1_made 103 = .ok (.iastore, 1) := by decide +kernel
theorem dX1_made_104 : decode cX1_made 104 = .ok (.aload_n 0, 1) := by decide +kernel
theorem dX1_made_105 : decode cX1_made 105 = .ok (.getfield 22, 3) := by decide +kernel
theorem dX1_made_108 : decode cX1_made 108 = .ok (.bipush 40, 2) := by decide +kernel
theorem dX1_made_110 : decode cX1_made 110 = .ok (.iload 4, 2) := by decide +kernel
theorem dX1_made_112 : decode cX1_made 112 = .ok (.imul, 1) := by decide +kernel
theorem dX1_made_113 : decode cX1_made 113 = .ok (.iload 5, 2) := by decide +kernel
theorem dX1_made_115 : decode cX1_made 115 = .ok (.iadd, 1) := by decide +kernel
theorem dX1_made_116 : decode cX1_made 116 = .ok (.lconst 0, 1) := by decide +kernel
theorem dX1_made_117 : decode cX1_made 117 = .ok (.lastore, 1) := by decide +kernel
theorem dX1_made_118 : decode cX1_made 118 = .ok (.iinc 5 1, 3) := by decide +kernel
theorem dX1_made_121 : decode cX1_made 121 = .ok (.goto (-38), 3) := by decide +kernel
theorem dX1_made_124 : decode cX1_made 124 = .ok (.aload_n 0, 1) := by decide +kernel
theorem dX1_made_125 : decode cX1_made 125 = .ok (.getfield 16, 3) := by decide +kernel
theorem dX1_made_128 : decode cX1_made 128 = .ok (.aload_n 0, 1) := by decide +kernel
theorem dX1_made_129 : decode cX1_made 129 = .ok (.getfield 40, 3) := by decide +kernel
theorem dX1_made_132 : decode cX1_made 132 = .ok (.iload 4, 2) := by decide +kernel
theorem dX1_made_134 : decode cX1_made 134 = .ok (.iastore, 1) := by decide +kernel
theorem dX1_made_135 : decode cX1_made 135 = .ok (.aload_n 0, 1) := by decide +kernel
theorem dX1_made_136 : decode cX1_made 136 = .ok (.dup, 1) := by decide +kernel
theorem dX1_made_137 : decode cX1_made 137 = .ok (.getfield 40, 3) := by decide +kernel
theorem dX1_made_140 : decode cX1_made 140 = .ok (.iconst 1, 1) := by decide +kernel
theorem dX1_made_141 : decode cX1_made 141 = .ok (.iadd, 1) := by decide +kernel
theorem dX1_made_142 : decode cX1_made 142 = .ok (.putfield 40, 3) := by decide +kernel
theorem dX1_made_145 : decode cX1_made 145 = .ok (.iload 4, 2) := by decide +kernel
theorem dX1_made_147 : decode cX1_made 147 = .ok (.ireturn, 1) := by decide +kernel
theorem dX1_make_0 : decode cX1_make 0 = .ok (.aload_n 0, 1) := by decide +kernel
theorem dX1_make_1 : decode cX1_make 1 = .ok (.aload_n 0, 1) := by decide +kernel
theorem dX1_make_2 : decode cX1_make 2 = .ok (.iload_n 1, 1) := by decide +kernel
theorem dX1_make_3 : decode cX1_make 3 = .ok (.invokevirtual 64, 3) := by decide +kernel
theorem dX1_make_6 : decode cX1_make 6 = .ok (.ifCond .eq 13, 3) := by decide +kernel
theorem dX1_make_9 : decode cX1_make 9 = .ok (.iload_n 3, 1) := by decide +kernel
theorem dX1_make_10 : decode cX1_make 10 = .ok (.ifCond .lt 9, 3) := by decide +kernel
theorem dX1_make_13 : decode cX1_make 13 = .ok (.iload_n 3, 1) := by decide +kernel
theorem dX1_make_14 : decode cX1_make 14 = .ok (.bipush 40, 2) := by decide +kernel
theorem dX1_make_16 : decode cX1_make 16 = .ok (.if_icmp .le 7, 3) := by decide +kernel
theorem dX1_make_19 : decode cX1_make 19 = .ok (.iconst 1, 1) := by decide +kernel
theorem dX1_make_20 : decode cX1_make 20 = .ok (.goto 4, 3) := by decide +kernel
theorem dX1_make_23 : decode cX1_make 23 = .ok (.iconst 0, 1) := by decide +kernel
theorem dX1_make_24 : decode cX1_make 24 = .ok (.putfield 36, 3) := by decide +kernel
theorem dX1_make_27 : decode cX1_make 27 = .ok (.aload_n 0, 1) := by decide +kernel
theorem dX1_make_28 : decode cX1_make 28 = .ok (.getfield 36, 3) := by decide +kernel
theorem dX1_make_31 : decode cX1_make 31 = .ok (.ifCond .eq 5, 3) := by decide +kernel
theorem dX1_make_34 : decode cX1_make 34 = .ok (.iconst 0, 1) := by decide +kernel
theorem dX1_make_35 : decode cX1_make 35 = .ok (.ireturn, 1) := by decide +kernel
theorem dX1_make_36 : decode cX1_make 36 = .ok (.aload_n 0, 1) := by decide +kernel
theorem dX1_make_37 : decode cX1_make 37 = .ok (.iload_n 2, 1) := by decide +kernel
theorem dX1_make_38 : decode cX1_make 38 = .ok (.ifCond .eq 7, 3) := by decide +kernel
theorem dX1_make_41 : decode cX1_make 41 = .ok (.iconst 1, 1) := by decide +kernel
theorem dX1_make_42 : decode cX1_make 42 = .ok (.goto 4, 3) := by decide +kernel
theorem dX1_make_45 : decode cX1_make 45 = .ok (.iconst 2, 1) := by decide +kernel
theorem dX1_make_46 : decode cX1_make 46 = .ok (.iload_n 3, 1) := by decide +kernel
theorem dX1_make_47 : decode cX1_make 47 = .ok (.invokevirtual 68, 3) := by decide +kernel
theorem dX1_make_50 : decode cX1_make 50 = .ok (.istore 4, 2) := by decide +kernel
theorem dX1_make_52 : decode cX1_make 52 = .ok (.aload_n 0, 1) := by decide +kernel
theorem dX1_make_53 : decode cX1_make 53 = .ok (.iload 4, 2) := by decide +kernel
theorem dX1_make_55 : decode cX1_make 55 = .ok (.ifCond .ne 7, 3) := by decide +kernel
theorem dX1_make_58 : decode cX1_make 58 = .ok (.iconst 2, 1) := by decide +kernel
theorem dX1_make_59 : decode cX1_make 59 = .ok (.goto 4, 3) := by decide +kernel
theorem dX1_make_62 : decode cX1_make 62 = .ok (.iconst 0, 1) := by decide +kernel
theorem dX1_make_63 : decode cX1_make 63 = .ok (.putfield 36, 3) := by decide +kernel
theorem dX1_make_66 : decode cX1_make 66 = .ok (.iload 4, 2) := by decide +kernel
theorem dX1_make_68 : decode cX1_make 68 = .ok (.ifCond .ne 5, 3) := by decide +kernel
theorem dX1_make_71 : decode cX1_make 71 = .ok (.iconst 0, 1) := by decide +kernel
theorem dX1_make_72 : decode cX1_make 72 = .ok (.ireturn, 1) := by decide +kernel
theorem dX1_make_73 : decode cX1_make 73 = .ok (.aload_n 0, 1) := by decide +kernel
theorem dX1_make_74 : decode cX1_make 74 = .ok (.getfield 30, 3) := by decide +kernel
theorem dX1_make_77 : decode cX1_make 77 = .ok (.iload_n 1, 1) := by decide +kernel
theorem dX1_make_78 : decode cX1_make 78 = .ok (.iload 4, 2) := by decide +kernel
theorem dX1_make_80 : decode cX1_make 80 = .ok (.iastore, 1) := by decide +kernel
theorem dX1_make_81 : decode cX1_make 81 = .ok (.aload_n 0, 1) := by decide +kernel
theorem dX1_make_82 : decode cX1_make 82 = .ok (.iload 4, 2) := by decide +kernel
theorem dX1_make_84 : decode cX1_make 84 = .ok (.invokevirtual 72, 3) := by decide +kernel
theorem dX1_make_87 : decode cX1_make 87 = .ok (.ireturn, 1) := by decide +kernel
theorem dX1_weak_0 : decode cX1_weak 0 = .ok (.aload_n 0, 1) := by decide +kernel
theorem dX1_weak_1 : decode cX1_weak 1 = .ok (.aload_n 0, 1) := by decide +kernel
theorem dX1_weak_2 : decode cX1_weak 2 = .ok (.iload_n 1, 1) := by decide +kernel
theorem dX1_weak_3 : decode cX1_weak 3 = .ok (.invokevirtual 64, 3) := by decide +kernel
theorem dX1_weak_6 : decode cX1_weak 6 = .ok (.ifCond .eq 11, 3) := by decide +kernel
theorem dX1_weak_9 : decode cX1_weak 9 = .ok (.aload_n 0, 1) := by decide +kernel
theorem dX1_weak_10 : decode cX1_weak 10 = .ok (.iload_n 2, 1) := by decide +kernel
theorem dX1_weak_11 : decode cX1_weak 11 = .ok (.invokevirtual 64, 3) := by decide +kernel
theorem dX1_weak_14 : decode cX1_weak 14 = .ok (.ifCond .ne 7, 3) := by decide +kernel
theorem dX1_weak_17 : decode cX1_weak 17 = .ok (.iconst 1, 1) := by decide +kernel
theorem dX1_weak_18 : decode cX1_weak 18 = .ok (.goto 17, 3) := by decide +kernel
theorem dX1_weak_21 : decode cX1_weak 21 = .ok (.aload_n 0, 1) := by decide +kernel
theorem dX1_weak_22 : decode cX1_weak 22 = .ok (.getfield 30, 3) := by decide +kernel
theorem dX1_weak_25 : decode cX1_weak 25 = .ok (.iload_n 2, 1) := by decide +kernel
theorem dX1_weak_26 : decode cX1_weak 26 = .ok (.iaload, 1) := by decide +kernel
theorem dX1_weak_27 : decode cX1_weak 27 = .ok (.ifCond .ne 7, 3) := by decide +kernel
theorem dX1_weak_30 : decode cX1_weak 30 = .ok (.iconst 3, 1) := by decide +kernel
theorem dX1_weak_31 : decode cX1_weak 31 = .ok (.goto 4, 3) := by decide +kernel
theorem dX1_weak_34 : decode cX1_weak 34 = .ok (.iconst 0, 1) := by decide +kernel
theorem dX1_weak_35 : decode cX1_weak 35 = .ok (.putfield 36, 3) := by decide +kernel
theorem dX1_weak_38 : decode cX1_weak 38 = .ok (.aload_n 0, 1) := by decide +kernel
theorem dX1_weak_39 : decode cX1_weak 39 = .ok (.getfield 36, 3) := by decide +kernel
theorem dX1_weak_42 : decode cX1_weak 42 = .ok (.ifCond .eq 5, 3) := by decide +kernel
theorem dX1_weak_45 : decode cX1_weak 45 = .ok (.iconst 0, 1) := by decide +kernel
theorem dX1_weak_46 : decode cX1_weak 46 = .ok (.ireturn, 1) := by decide +kernel
theorem dX1_weak_47 : decode cX1_weak 47 = .ok (.aload_n 0, 1) := by decide +kernel
theorem dX1_weak_48 : decode cX1_weak 48 = .ok (.iconst 3, 1) := by decide +kernel
theorem dX1_weak_49 : decode cX1_weak 49 = .ok (.iconst 1, 1) := by decide +kernel
theorem dX1_weak_50 : decode cX1_weak 50 = .ok (.invokevirtual 68, 3) := by decide +kernel
theorem dX1_weak_53 : decode cX1_weak 53 = .ok (.istore_n 3, 1) := by decide +kernel
theorem dX1_weak_54 : decode cX1_weak 54 = .ok (.aload_n 0, 1) := by decide +kernel
theorem dX1_weak_55 : decode cX1_weak 55 = .ok (.iload_n 3, 1) := by decide +kernel
theorem dX1_weak_56 : decode cX1_weak 56 = .ok (.ifCond .ne 7, 3) := by decide +kernel
theorem dX1_weak_59 : decode cX1_weak 59 = .ok (.iconst 2, 1) := by decide +kernel
theorem dX1_weak_60 : decode cX1_weak 60 = .ok (.goto 4, 3) := by decide +kernel
theorem dX1_weak_63 : decode cX1_weak 63 = .ok (.iconst 0, 1) := by decide +kernel
theorem dX1_weak_64 : decode cX1_weak 64 = .ok (.putfield 36, 3) := by decide +kernel
theorem dX1_weak_67 : decode cX1_weak 67 = .ok (.iload_n 3, 1) := by decide +kernel
theorem dX1_weak_68 : decode cX1_weak 68 = .ok (.ifCond .ne 5, 3) := by decide +kernel
theorem dX1_weak_71 : decode cX1_weak 71 = .ok (.iconst 0, 1) := by decide +kernel
theorem dX1_weak_72 : decode cX1_weak 72 = .ok (.ireturn, 1) := by decide +kernel
theorem dX1_weak_73 : decode cX1_weak 73 = .ok (.aload_n 0, 1) := by decide +kernel
theorem dX1_weak_74 : decode cX1_weak 74 = .ok (.getfield 19, 3) := by decide +kernel
theorem dX1_weak_77 : decode cX1_weak 77 = .ok (.bipush 40, 2) := by decide +kernel
theorem dX1_weak_79 : decode cX1_weak 79 = .ok (.iload_n 3, 1) := by decide +kernel
theorem dX1_weak_80 : decode cX1_weak 80 = .ok (.imul, 1) := by decide +kernel
theorem dX1_weak_81 : decode cX1_weak 81 = .ok (.aload_n 0, 1) := by decide +kernel
theorem dX1_weak_82 : decode cX1_weak 82 = .ok (.getfield 30, 3) := by decide +kernel
theorem dX1_weak_85 : decode cX1_weak 85 = .ok (.iload_n 2, 1) := by decide +kernel
theorem dX1_weak_86 : decode cX1_weak 86 = .ok (.iaload, 1) := by decide +kernel
theorem dX1_weak_87 : decode cX1_weak 87 = .ok (.iastore, 1) := by decide +kernel
theorem dX1_weak_88 : decode cX1_weak 88 = .ok (.aload_n 0, 1) := by decide +kernel
theorem dX1_weak_89 : decode cX1_weak 89 = .ok (.getfield 30, 3) := by decide +kernel
theorem dX1_weak_92 : decode cX1_weak 92 = .ok (.iload_n 1, 1) := by decide +kernel
theorem dX1_weak_93 : decode cX1_weak 93 = .ok (.iload_n 3, 1) := by decide +kernel
theorem dX1_weak_94 : decode cX1_weak 94 = .ok (.iastore, 1) := by decide +kernel
theorem dX1_weak_95 : decode cX1_weak 95 = .ok (.aload_n 0, 1) := by decide +kernel
theorem dX1_weak_96 : decode cX1_weak 96 = .ok (.iload_n 3, 1) := by decide +kernel
theorem dX1_weak_97 : decode cX1_weak 97 = .ok (.invokevirtual 72, 3) := by decide +kernel
theorem dX1_weak_100 : decode cX1_weak 100 = .ok (.ireturn, 1) := by decide +kernel
theorem dX1_copy_0 : decode cX1_copy 0 = .ok (.aload_n 0, 1) := by decide +kernel
theorem dX1_copy_1 : decode cX1_copy 1 = .ok (.aload_n 0, 1) := by decide +kernel
theorem dX1_copy_2 : decode cX1_copy 2 = .ok (.iload_n 1, 1) := by decide +kernel
theorem dX1_copy_3 : decode cX1_copy 3 = .ok (.invokevirtual 64, 3) := by decide +kernel
theorem dX1_copy_6 : decode cX1_copy 6 = .ok (.ifCond .eq 11, 3) := by decide +kernel
theorem dX1_copy_9 : decode cX1_copy 9 = .ok (.aload_n 0, 1) := by decide +kernel
theorem dX1_copy_10 : decode cX1_copy 10 = .ok (.iload_n 2, 1) := by decide +kernel
theorem dX1_copy_11 : decode cX1_copy 11 = .ok (.invokevirtual 64, 3) := by decide +kernel
theorem dX1_copy_14 : decode cX1_copy 14 = .ok (.ifCond .ne 7, 3) := by decide +kernel
theorem dX1_copy_17 : decode cX1_copy 17 = .ok (.iconst 1, 1) := by decide +kernel
theorem dX1_copy_18 : decode cX1_copy 18 = .ok (.goto 4, 3) := by decide +kernel
theorem dX1_copy_21 : decode cX1_copy 21 = .ok (.iconst 0, 1) := by decide +kernel
theorem dX1_copy_22 : decode cX1_copy 22 = .ok (.putfield 36, 3) := by decide +kernel
theorem dX1_copy_25 : decode cX1_copy 25 = .ok (.aload_n 0, 1) := by decide +kernel
theorem dX1_copy_26 : decode cX1_copy 26 = .ok (.getfield 36, 3) := by decide +kernel
theorem dX1_copy_29 : decode cX1_copy 29 = .ok (.ifCond .ne 15, 3) := by decide +kernel
theorem dX1_copy_32 : decode cX1_copy 32 = .ok (.aload_n 0, 1) := by decide +kernel
theorem dX1_copy_33 : decode cX1_copy 33 = .ok (.getfield 30, 3) := by decide +kernel
theorem dX1_copy_36 : decode cX1_copy 36 = .ok (.iload_n 1, 1) := by decide +kernel
theorem dX1_copy_37 : decode cX1_copy 37 = .ok (.aload_n 0, 1) := by decide +kernel
theorem dX1_copy_38 : decode cX1_copy 38 = .ok (.getfield 30, 3) := by decide +kernel
theorem dX1_copy_41 : decode cX1_copy 41 = .ok (.iload_n 2, 1) := by decide +kernel
theorem dX1_copy_42 : decode cX1_copy 42 = .ok (.iaload, 1) := by decide +kernel
theorem dX1_copy_43 : decode cX1_copy 43 = .ok (.iastore, 1) := by decide +kernel
theorem dX1_copy_44 : decode cX1_copy 44 = .ok (.return_, 1) := by decide +kernel
theorem dX1_drop_0 : decode cX1_drop 0 = .ok (.aload_n 0, 1) := by decide +kernel
theorem dX1_drop_1 : decode cX1_drop 1 = .ok (.aload_n 0, 1) := by decide +kernel
theorem dX1_drop_2 : decode cX1_drop 2 = .ok (.iload_n 1, 1) := by decide +kernel
theorem dX1_drop_3 : decode cX1_drop 3 = .ok (.invokevirtual 64, 3) := by decide +kernel
theorem dX1_drop_6 : decode cX1_drop 6 = .ok (.ifCond .ne 7, 3) := by decide +kernel
theorem dX1_drop_9 : decode cX1_drop 9 = .ok (.iconst 1, 1) := by decide +kernel
theorem dX1_drop_10 : decode cX1_drop 10 = .ok (.goto 4, 3) := by decide +kernel
theorem dX1_drop_13 : decode cX1_drop 13 = .ok (.iconst 0, 1) := by decide +kernel
theorem dX1_drop_14 : decode cX1_drop 14 = .ok (.putfield 36, 3) := by decide +kernel
theorem dX1_drop_17 : decode cX1_drop 17 = .ok (.aload_n 0, 1) := by decide +kernel
theorem dX1_drop_18 : decode cX1_drop 18 = .ok (.getfield 36, 3) := by decide +kernel
theorem dX1_drop_21 : decode cX1_drop 21 = .ok (.ifCond .ne 10, 3) := by decide +kernel
theorem dX1_drop_24 : decode cX1_drop 24 = .ok (.aload_n 0, 1) := by decide +kernel
theorem dX1_drop_25 : decode cX1_drop 25 = .ok (.getfield 30, 3) := by decide +kernel
theorem dX1_drop_28 : decode cX1_drop 28 = .ok (.iload_n 1, 1) := by decide +kernel
theorem dX1_drop_29 : decode cX1_drop 29 = .ok (.iconst 0, 1) := by decide +kernel
theorem dX1_drop_30 : decode cX1_drop 30 = .ok (.iastore, 1) := by decide +kernel
theorem dX1_drop_31 : decode cX1_drop 31 = .ok (.return_, 1) := by decide +kernel
theorem dX1_isWrong_0 : decode cX1_isWrong 0 = .ok (.aload_n 0, 1) := by decide +kernel
theorem dX1_isWrong_1 : decode cX1_isWrong 1 = .ok (.getfield 7, 3) := by decide +kernel
theorem dX1_isWrong_4 : decode cX1_isWrong 4 = .ok (.iload_n 1, 1) := by decide +kernel
theorem dX1_isWrong_5 : decode cX1_isWrong 5 = .ok (.iaload, 1) := by decide +kernel
theorem dX1_isWrong_6 : decode cX1_isWrong 6 = .ok (.iload_n 2, 1) := by decide +kernel
theorem dX1_isWrong_7 : decode cX1_isWrong 7 = .ok (.if_icmp .ne 17, 3) := by decide +kernel
theorem dX1_isWrong_10 : decode cX1_isWrong 10 = .ok (.iload_n 3, 1) := by decide +kernel
theorem dX1_isWrong_11 : decode cX1_isWrong 11 = .ok (.ifCond .lt 13, 3) := by decide +kernel
theorem dX1_isWrong_14 : decode cX1_isWrong 14 = .ok (.iload_n 3, 1) := by decide +kernel
theorem dX1_isWrong_15 : decode cX1_isWrong 15 = .ok (.aload_n 0, 1) := by decide +kernel
theorem dX1_isWrong_16 : decode cX1_isWrong 16 = .ok (.getfield 13, 3) := by decide +kernel
theorem dX1_isWrong_19 : decode cX1_isWrong 19 = .ok (.iload_n 1, 1) := by decide +kernel
theorem dX1_isWrong_20 : decode cX1_isWrong 20 = .ok (.iaload, 1) := by decide +kernel
theorem dX1_isWrong_21 : decode cX1_isWrong 21 = .ok (.if_icmp .lt 7, 3) := by decide +kernel
theorem dX1_isWrong_24 : decode cX1_isWrong 24 = .ok (.iconst 1, 1) := by decide +kernel
theorem dX1_isWrong_25 : decode cX1_isWrong 25 = .ok (.goto 4, 3) := by decide +kernel
theorem dX1_isWrong_28 : decode cX1_isWrong 28 = .ok (.iconst 0, 1) := by decide +kernel
theorem dX1_isWrong_29 : decode cX1_isWrong 29 = .ok (.ireturn, 1) := by decide +kernel
theorem dX1_link_0 : decode cX1_link 0 = .ok (.aload_n 0, 1) := by decide +kernel
theorem dX1_link_1 : decode cX1_link 1 = .ok (.aload_n 0, 1) := by decide +kernel
theorem dX1_link_2 : decode cX1_link 2 = .ok (.iload_n 1, 1) := by decide +kernel
theorem dX1_link_3 : decode cX1_link 3 = .ok (.invokevirtual 64, 3) := by decide +kernel
theorem dX1_link_6 : decode cX1_link 6 = .ok (.ifCond .eq 11, 3) := by decide +kernel
theorem dX1_link_9 : decode cX1_link 9 = .ok (.aload_n 0, 1) := by decide +kernel
theorem dX1_link_10 : decode cX1_link 10 = .ok (.iload_n 3, 1) := by decide +kernel
theorem dX1_link_11 : decode cX1_link 11 = .ok (.invokevirtual 64, 3) := by decide +kernel
theorem dX1_link_14 : decode cX1_link 14 = .ok (.ifCond .ne 7, 3) := by decide +kernel
theorem dX1_link_17 : decode cX1_link 17 = .ok (.iconst 1, 1) := by decide +kernel
theorem dX1_link_18 : decode cX1_link 18 = .ok (.goto 36, 3) := by decide +kernel
theorem dX1_link_21 : decode cX1_link 21 = .ok (.aload_n 0, 1) := by decide +kernel
theorem dX1_link_22 : decode cX1_link 22 = .ok (.getfield 30, 3) := by decide +kernel
theorem dX1_link_25 : decode cX1_link 25 = .ok (.iload_n 1, 1) := by decide +kernel
theorem dX1_link_26 : decode cX1_link 26 = .ok (.iaload, 1) := by decide +kernel
theorem dX1_link_27 : decode cX1_link 27 = .ok (.ifCond .ne 7, 3) := by decide +kernel
theorem dX1_link_30 : decode cX1_link 30 = .ok (.iconst 2, 1) := by decide +kernel
theorem dX1_link_31 : decode cX1_link 31 = .ok (.goto 23, 3) := by decide +kernel
theorem dX1_link_34 : decode cX1_link 34 = .ok (.aload_n 0, 1) := by decide +kernel
theorem dX1_link_35 : decode cX1_link 35 = .ok (.aload_n 0, 1) := by decide +kernel
theorem dX1_link_36 : decode cX1_link 36 = .ok (.getfield 30, 3) := by decide +kernel
theorem dX1_link_39 : decode cX1_link 39 = .ok (.iload_n 1, 1) := by decide +kernel
theorem dX1_link_40 : decode cX1_link 40 = .ok (.iaload, 1) := by decide +kernel
theorem dX1_link_41 : decode cX1_link 41 = .ok (.iconst 1, 1) := by decide +kernel
theorem dX1_link_42 : decode cX1_link 42 = .ok (.iload_n 2, 1) := by decide +kernel
theorem dX1_link_43 : decode cX1_link 43 = .ok (.invokevirtual 75, 3) := by decide +kernel
theorem dX1_link_46 : decode cX1_link 46 = .ok (.ifCond .eq 7, 3) := by decide +kernel
theorem dX1_link_49 : decode cX1_link 49 = .ok (.iconst 1, 1) := by decide +kernel
theorem dX1_link_50 : decode cX1_link 50 = .ok (.goto 4, 3) := by decide +kernel
theorem dX1_link_53 : decode cX1_link 53 = .ok (.iconst 0, 1) := by decide +kernel
theorem dX1_link_54 : decode cX1_link 54 = .ok (.putfield 36, 3) := by decide +kernel
theorem dX1_link_57 : decode cX1_link 57 = .ok (.aload_n 0, 1) := by decide +kernel
theorem dX1_link_58 : decode cX1_link 58 = .ok (.getfield 36, 3) := by decide +kernel
theorem dX1_link_61 : decode cX1_link 61 = .ok (.ifCond .ne 25, 3) := by decide +kernel
theorem dX1_link_64 : decode cX1_link 64 = .ok (.aload_n 0, 1) := by decide +kernel
theorem dX1_link_65 : decode cX1_link 65 = .ok (.getfield 19, 3) := by decide +kernel
theorem dX1_link_68 : decode cX1_link 68 = .ok (.bipush 40, 2) := by decide +kernel
theorem dX1_link_70 : decode cX1_link 70 = .ok (.aload_n 0, 1) := by decide +kernel
theorem dX1_link_71 : decode cX1_link 71 = .ok (.getfield 30, 3) := by decide +kernel
theorem dX1_link_74 : decode cX1_link 74 = .ok (.iload_n 1, 1) := by decide +kernel
theorem dX1_link_75 : decode cX1_link 75 = .ok (.iaload, 1) := by decide +kernel
theorem dX1_link_76 : decode cX1_link 76 = .ok (.imul, 1) := by decide +kernel
theorem dX1_link_77 : decode cX1_link 77 = .ok (.iload_n 2, 1) := by decide +kernel
theorem dX1_link_78 : decode cX1_link 78 = .ok (.iadd, 1) := by decide +kernel
theorem dX1_link_79 : decode cX1_link 79 = .ok (.aload_n 0, 1) := by decide +kernel
theorem dX1_link_80 : decode cX1_link 80 = .ok (.getfield 30, 3) := by decide +kernel
theorem dX1_link_83 : decode cX1_link 83 = .ok (.iload_n 3, 1) := by decide +kernel
theorem dX1_link_84 : decode cX1_link 84 = .ok (.iaload, 1) := by decide +kernel
theorem dX1_link_85 : decode cX1_link 85 = .ok (.iastore, 1) := by decide +kernel
theorem dX1_link_86 : decode cX1_link 86 = .ok (.return_, 1) := by decide +kernel
theorem dX1_follow_0 : decode cX1_follow 0 = .ok (.aload_n 0, 1) := by decide +kernel
theorem dX1_follow_1 : decode cX1_follow 1 = .ok (.aload_n 0, 1) := by decide +kernel
theorem dX1_follow_2 : decode cX1_follow 2 = .ok (.iload_n 1, 1) := by decide +kernel
theorem dX1_follow_3 : decode cX1_follow 3 = .ok (.invokevirtual 64, 3) := by decide +kernel
theorem dX1_follow_6 : decode cX1_follow 6 = .ok (.ifCond .eq 11, 3) := by decide +kernel
theorem dX1_follow_9 : decode cX1_follow 9 = .ok (.aload_n 0, 1) := by decide +kernel
theorem dX1_follow_10 : decode cX1_follow 10 = .ok (.iload_n 2, 1) := by decide +kernel
theorem dX1_follow_11 : decode cX1_follow 11 = .ok (.invokevirtual 64, 3) := by decide +kernel
theorem dX1_follow_14 : decode cX1_follow 14 = .ok (.ifCond .ne 7, 3) := by decide +kernel
theorem dX1_follow_17 : decode cX1_follow 17 = .ok (.iconst 1, 1) := by decide +kernel
theorem dX1_follow_18 : decode cX1_follow 18 = .ok (.goto 51, 3) := by decide +kernel
theorem dX1_follow_21 : decode cX1_follow 21 = .ok (.aload_n 0, 1) := by decide +kernel
theorem dX1_follow_22 : decode cX1_follow 22 = .ok (.getfield 30, 3) := by decide +kernel
theorem dX1_follow_25 : decode cX1_follow 25 = .ok (.iload_n 2, 1) := by decide +kernel
theorem dX1_follow_26 : decode cX1_follow 26 = .ok (.iaload, 1) := by decide +kernel
theorem dX1_follow_27 : decode cX1_follow 27 = .ok (.ifCond .ne 7, 3) := by decide +kernel
theorem dX1_follow_30 : decode cX1_follow 30 = .ok (.iconst 2, 1) := by decide +kernel
theorem dX1_follow_31 : decode cX1_follow 31 = .ok (.goto 38, 3) := by decide +kernel
theorem dX1_follow_34 : decode cX1_follow 34 = .ok (.aload_n 0, 1) := by decide +kernel
theorem dX1_follow_35 : decode cX1_follow 35 = .ok (.aload_n 0, 1) := by decide +kernel
theorem dX1_follow_36 : decode cX1_follow 36 = .ok (.getfield 30, 3) := by decide +kernel
theorem dX1_follow_39 : decode cX1_follow 39 = .ok (.iload_n 2, 1) := by decide +kernel
theorem dX1_follow_40 : decode cX1_follow 40 = .ok (.iaload, 1) := by decide +kernel
theorem dX1_follow_41 : decode cX1_follow 41 = .ok (.iconst 1, 1) := by decide +kernel
theorem dX1_follow_42 : decode cX1_follow 42 = .ok (.iload_n 3, 1) := by decide +kernel
theorem dX1_follow_43 : decode cX1_follow 43 = .ok (.invokevirtual 75, 3) := by decide +kernel
theorem dX1_follow_46 : decode cX1_follow 46 = .ok (.ifCond .eq 22, 3) := by decide +kernel
theorem dX1_follow_49 : decode cX1_follow 49 = .ok (.aload_n 0, 1) := by decide +kernel
theorem dX1_follow_50 : decode cX1_follow 50 = .ok (.aload_n 0, 1) := by decide +kernel
theorem dX1_follow_51 : decode cX1_follow 51 = .ok (.getfield 30, 3) := by decide +kernel
theorem dX1_follow_54 : decode cX1_follow 54 = .ok (.iload_n 2, 1) := by decide +kernel
theorem dX1_follow_55 : decode cX1_follow 55 = .ok (.iaload, 1) := by decide +kernel
theorem dX1_follow_56 : decode cX1_follow 56 = .ok (.iconst 3, 1) := by decide +kernel
theorem dX1_follow_57 : decode cX1_follow 57 = .ok (.iload_n 3, 1) := by decide +kernel
theorem dX1_follow_58 : decode cX1_follow 58 = .ok (.invokevirtual 75, 3) := by decide +kernel
theorem dX1_follow_61 : decode cX1_follow 61 = .ok (.ifCond .eq 7, 3) := by decide +kernel
theorem dX1_follow_64 : decode cX1_follow 64 = .ok (.iconst 1, 1) := by decide +kernel
theorem dX1_follow_65 : decode cX1_follow 65 = .ok (.goto 4, 3) := by decide +kernel
theorem dX1_follow_68 : decode cX1_follow 68 = .ok (.iconst 0, 1) := by decide +kernel
theorem dX1_follow_69 : decode cX1_follow 69 = .ok (.putfield 36, 3) := by decide +kernel
theorem dX1_follow_72 : decode cX1_follow 72 = .ok (.aload_n 0, 1) := by decide +kernel
theorem dX1_follow_73 : decode cX1_follow 73 = .ok (.getfield 36, 3) := by decide +kernel
theorem dX1_follow_76 : decode cX1_follow 76 = .ok (.ifCond .ne 25, 3) := by decide +kernel
theorem dX1_follow_79 : decode cX1_follow 79 = .ok (.aload_n 0, 1) := by decide +kernel
theorem dX1_follow_80 : decode cX1_follow 80 = .ok (.getfield 30, 3) := by decide +kernel
theorem dX1_follow_83 : decode cX1_follow 83 = .ok (.iload_n 1, 1) := by decide +kernel
theorem dX1_follow_84 : decode cX1_follow 84 = .ok (.aload_n 0, 1) := by decide +kernel
theorem dX1_follow_85 : decode cX1_follow 85 = .ok (.getfield 19, 3) := by decide +kernel
theorem dX1_follow_88 : decode cX1_follow 88 = .ok (.bipush 40, 2) := by decide +kernel
theorem dX1_follow_90 : decode cX1_follow 90 = .ok (.aload_n 0, 1) := by decide +kernel
theorem dX1_follow_91 : decode cX1_follow 91 = .ok (.getfield 30, 3) := by decide +kernel
theorem dX1_follow_94 : decode cX1_follow 94 = .ok (.iload_n 2, 1) := by decide +kernel
theorem dX1_follow_95 : decode cX1_follow 95 = .ok (.iaload, 1) := by decide +kernel
theorem dX1_follow_96 : decode cX1_follow 96 = .ok (.imul, 1) := by decide +kernel
theorem dX1_follow_97 : decode cX1_follow 97 = .ok (.iload_n 3, 1) := by decide +kernel
theorem dX1_follow_98 : decode cX1_follow 98 = .ok (.iadd, 1) := by decide +kernel
theorem dX1_follow_99 : decode cX1_follow 99 = .ok (.iaload, 1) := by decide +kernel
theorem dX1_follow_100 : decode cX1_follow 100 = .ok (.iastore, 1) := by decide +kernel
theorem dX1_follow_101 : decode cX1_follow 101 = .ok (.return_, 1) := by decide +kernel
theorem dX1_fails_0 : decode cX1_fails 0 = .ok (.aload_n 0, 1) := by decide +kernel
theorem dX1_fails_1 : decode cX1_fails 1 = .ok (.aload_n 0, 1) := by decide +kernel
theorem dX1_fails_2 : decode cX1_fails 2 = .ok (.iload_n 1, 1) := by decide +kernel
theorem dX1_fails_3 : decode cX1_fails 3 = .ok (.invokevirtual 64, 3) := by decide +kernel
theorem dX1_fails_6 : decode cX1_fails 6 = .ok (.ifCond .ne 7, 3) := by decide +kernel
theorem dX1_fails_9 : decode cX1_fails 9 = .ok (.iconst 1, 1) := by decide +kernel
theorem dX1_fails_10 : decode cX1_fails 10 = .ok (.goto 36, 3) := by decide +kernel
theorem dX1_fails_13 : decode cX1_fails 13 = .ok (.aload_n 0, 1) := by decide +kernel
theorem dX1_fails_14 : decode cX1_fails 14 = .ok (.getfield 30, 3) := by decide +kernel
theorem dX1_fails_17 : decode cX1_fails 17 = .ok (.iload_n 1, 1) := by decide +kernel
theorem dX1_fails_18 : decode cX1_fails 18 = .ok (.iaload, 1) := by decide +kernel
theorem dX1_fails_19 : decode cX1_fails 19 = .ok (.ifCond .ne 7, 3) := by decide +kernel
theorem dX1_fails_22 : decode cX1_fails 22 = .ok (.iconst 2, 1) := by decide +kernel
theorem dX1_fails_23 : decode cX1_fails 23 = .ok (.goto 23, 3) := by decide +kernel
theorem dX1_fails_26 : decode cX1_fails 26 = .ok (.aload_n 0, 1) := by decide +kernel
theorem dX1_fails_27 : decode cX1_fails 27 = .ok (.aload_n 0, 1) := by decide +kernel
theorem dX1_fails_28 : decode cX1_fails 28 = .ok (.getfield 30, 3) := by decide +kernel
theorem dX1_fails_31 : decode cX1_fails 31 = .ok (.iload_n 1, 1) := by decide +kernel
theorem dX1_fails_32 : decode cX1_fails 32 = .ok (.iaload, 1) := by decide +kernel
theorem dX1_fails_33 : decode cX1_fails 33 = .ok (.iconst 2, 1) := by decide +kernel
theorem dX1_fails_34 : decode cX1_fails 34 = .ok (.iload_n 2, 1) := by decide +kernel
theorem dX1_fails_35 : decode cX1_fails 35 = .ok (.invokevirtual 75, 3) := by decide +kernel
theorem dX1_fails_38 : decode cX1_fails 38 = .ok (.ifCond .eq 7, 3) := by decide +kernel
theorem dX1_fails_41 : decode cX1_fails 41 = .ok (.iconst 1, 1) := by decide +kernel
theorem dX1_fails_42 : decode cX1_fails 42 = .ok (.goto 4, 3) := by decide +kernel
theorem dX1_fails_45 : decode cX1_fails 45 = .ok (.iconst 0, 1) := by decide +kernel
theorem dX1_fails_46 : decode cX1_fails 46 = .ok (.putfield 36, 3) := by decide +kernel
theorem dX1_fails_49 : decode cX1_fails 49 = .ok (.aload_n 0, 1) := by decide +kernel
theorem dX1_fails_50 : decode cX1_fails 50 = .ok (.getfield 36, 3) := by decide +kernel
theorem dX1_fails_53 : decode cX1_fails 53 = .ok (.ifCond .eq 7, 3) := by decide +kernel
theorem dX1_fails_56 : decode cX1_fails 56 = .ok (.iconst 1, 1) := by decide +kernel
theorem dX1_fails_57 : decode cX1_fails 57 = .ok (.goto 4, 3) := by decide +kernel
theorem dX1_fails_60 : decode cX1_fails 60 = .ok (.iconst 0, 1) := by decide +kernel
theorem dX1_fails_61 : decode cX1_fails 61 = .ok (.ireturn, 1) := by decide +kernel
theorem dX1_put_0 : decode cX1_put 0 = .ok (.aload_n 0, 1) := by decide +kernel
theorem dX1_put_1 : decode cX1_put 1 = .ok (.iload_n 1, 1) := by decide +kernel
theorem dX1_put_2 : decode cX1_put 2 = .ok (.iload_n 2, 1) := by decide +kernel
theorem dX1_put_3 : decode cX1_put 3 = .ok (.invokevirtual 79, 3) := by decide +kernel
theorem dX1_put_6 : decode cX1_put 6 = .ok (.ifCond .ne 20, 3) := by decide +kernel
theorem dX1_put_9 : decode cX1_put 9 = .ok (.aload_n 0, 1) := by decide +kernel
theorem dX1_put_10 : decode cX1_put 10 = .ok (.getfield 22, 3) := by decide +kernel
theorem dX1_put_13 : decode cX1_put 13 = .ok (.bipush 40, 2) := by decide +kernel
theorem dX1_put_15 : decode cX1_put 15 = .ok (.aload_n 0, 1) := by decide +kernel
theorem dX1_put_16 : decode cX1_put 16 = .ok (.getfield 30, 3) := by decide +kernel
theorem dX1_put_19 : decode cX1_put 19 = .ok (.iload_n 1, 1) := by decide +kernel
theorem dX1_put_20 : decode cX1_put 20 = .ok (.iaload, 1) := by decide +kernel
theorem dX1_put_21 : decode cX1_put 21 = .ok (.imul, 1) := by decide +kernel
theorem dX1_put_22 : decode cX1_put 22 = .ok (.iload_n 2, 1) := by decide +kernel
theorem dX1_put_23 : decode cX1_put 23 = .ok (.iadd, 1) := by decide +kernel
theorem dX1_put_24 : decode cX1_put 24 = .ok (.lload_n 3, 1) := by decide +kernel
theorem dX1_put_25 : decode cX1_put 25 = .ok (.lastore, 1) := by decide +kernel
theorem dX1_put_26 : decode cX1_put 26 = .ok (.return_, 1) := by decide +kernel
theorem dX1_get_0 : decode cX1_get 0 = .ok (.aload_n 0, 1) := by decide +kernel
theorem dX1_get_1 : decode cX1_get 1 = .ok (.iload_n 1, 1) := by decide +kernel
theorem dX1_get_2 : decode cX1_get 2 = .ok (.iload_n 2, 1) := by decide +kernel
theorem dX1_get_3 : decode cX1_get 3 = .ok (.invokevirtual 79, 3) := by decide +kernel
theorem dX1_get_6 : decode cX1_get 6 = .ok (.ifCond .eq 7, 3) := by decide +kernel
theorem dX1_get_9 : decode cX1_get 9 = .ok (.lconst 0, 1) := by decide +kernel
theorem dX1_get_10 : decode cX1_get 10 = .ok (.goto 19, 3) := by decide +kernel
theorem dX1_get_13 : decode cX1_get 13 = .ok (.aload_n 0, 1) := by decide +kernel
theorem dX1_get_14 : decode cX1_get 14 = .ok (.getfield 22, 3) := by decide +kernel
theorem dX1_get_17 : decode cX1_get 17 = .ok (.bipush 40, 2) := by decide +kernel
theorem dX1_get_19 : decode cX1_get 19 = .ok (.aload_n 0, 1) := by decide +kernel
theorem dX1_get_20 : decode cX1_get 20 = .ok (.getfield 30, 3) := by decide +kernel
theorem dX1_get_23 : decode cX1_get 23 = .ok (.iload_n 1, 1) := by decide +kernel
theorem dX1_get_24 : decode cX1_get 24 = .ok (.iaload, 1) := by decide +kernel
theorem dX1_get_25 : decode cX1_get 25 = .ok (.imul, 1) := by decide +kernel
theorem dX1_get_26 : decode cX1_get 26 = .ok (.iload_n 2, 1) := by decide +kernel
theorem dX1_get_27 : decode cX1_get 27 = .ok (.iadd, 1) := by decide +kernel
theorem dX1_get_28 : decode cX1_get 28 = .ok (.laload, 1) := by decide +kernel
theorem dX1_get_29 : decode cX1_get 29 = .ok (.lreturn, 1) := by decide +kernel
theorem dX1_state_0 : decode cX1_state 0 = .ok (.aload_n 0, 1) := by decide +kernel
theorem dX1_state_1 : decode cX1_state 1 = .ok (.aload_n 0, 1) := by decide +kernel
theorem dX1_state_2 : decode cX1_state 2 = .ok (.iload_n 1, 1) := by decide +kernel
theorem dX1_state_3 : decode cX1_state 3 = .ok (.invokevirtual 64, 3) := by decide +kernel
theorem dX1_state_6 : decode cX1_state 6 = .ok (.ifCond .eq 12, 3) := by decide +kernel
theorem dX1_state_9 : decode cX1_state 9 = .ok (.iload_n 2, 1) := by decide +kernel
theorem dX1_state_10 : decode cX1_state 10 = .ok (.ifCond .lt 8, 3) := by decide +kernel
theorem dX1_state_13 : decode cX1_state 13 = .ok (.iload_n 2, 1) := by decide +kernel
theorem dX1_state_14 : decode cX1_state 14 = .ok (.iconst 2, 1) := by decide +kernel
theorem dX1_state_15 : decode cX1_state 15 = .ok (.if_icmp .le 7, 3) := by decide +kernel
theorem dX1_state_18 : decode cX1_state 18 = .ok (.iconst 1, 1) := by decide +kernel
theorem dX1_state_19 : decode cX1_state 19 = .ok (.goto 4, 3) := by decide +kernel
theorem dX1_state_22 : decode cX1_state 22 = .ok (.iconst 0, 1) := by decide +kernel
theorem dX1_state_23 : decode cX1_state 23 = .ok (.putfield 36, 3) := by decide +kernel
theorem dX1_state_26 : decode cX1_state 26 = .ok (.aload_n 0, 1) := by decide +kernel
theorem dX1_state_27 : decode cX1_state 27 = .ok (.getfield 36, 3) := by decide +kernel
theorem dX1_state_30 : decode cX1_state 30 = .ok (.ifCond .eq 5, 3) := by decide +kernel
theorem dX1_state_33 : decode cX1_state 33 = .ok (.iconst 0, 1) := by decide +kernel
theorem dX1_state_34 : decode cX1_state 34 = .ok (.ireturn, 1) := by decide +kernel
theorem dX1_state_35 : decode cX1_state 35 = .ok (.aload_n 0, 1) := by decide +kernel
theorem dX1_state_36 : decode cX1_state 36 = .ok (.getfield 30, 3) := by decide +kernel
theorem dX1_state_39 : decode cX1_state 39 = .ok (.iload_n 1, 1) := by decide +kernel
theorem dX1_state_40 : decode cX1_state 40 = .ok (.iaload, 1) := by decide +kernel
theorem dX1_state_41 : decode cX1_state 41 = .ok (.istore_n 3, 1) := by decide +kernel
theorem dX1_state_42 : decode cX1_state 42 = .ok (.iload_n 2, 1) := by decide +kernel
theorem dX1_state_43 : decode cX1_state 43 = .ok (.ifCond .ne 18, 3) := by decide +kernel
theorem dX1_state_46 : decode cX1_state 46 = .ok (.iload_n 3, 1) := by decide +kernel
theorem dX1_state_47 : decode cX1_state 47 = .ok (.ifCond .ne 7, 3) := by decide +kernel
theorem dX1_state_50 : decode cX1_state 50 = .ok (.iconst 0, 1) := by decide +kernel
theorem dX1_state_51 : decode cX1_state 51 = .ok (.goto 9, 3) := by decide +kernel
theorem dX1_state_54 : decode cX1_state 54 = .ok (.aload_n 0, 1) := by decide +kernel
theorem dX1_state_55 : decode cX1_state 55 = .ok (.getfield 7, 3) := by decide +kernel
theorem dX1_state_58 : decode cX1_state 58 = .ok (.iload_n 3, 1) := by decide +kernel
theorem dX1_state_59 : decode cX1_state 59 = .ok (.iaload, 1) := by decide +kernel
theorem dX1_state_60 : decode cX1_state 60 = .ok (.ireturn, 1) := by decide +kernel
theorem dX1_state_61 : decode cX1_state 61 = .ok (.iload_n 3, 1) := by decide +kernel
theorem dX1_state_62 : decode cX1_state 62 = .ok (.ifCond .ne 7, 3) := by decide +kernel
theorem dX1_state_65 : decode cX1_state 65 = .ok (.iconst (-1), 1) := by decide +kernel
theorem dX1_state_66 : decode cX1_state 66 = .ok (.goto 22, 3) := by decide +kernel
theorem dX1_state_69 : decode cX1_state 69 = .ok (.iload_n 2, 1) := by decide +kernel
theorem dX1_state_70 : decode cX1_state 70 = .ok (.iconst 1, 1) := by decide +kernel
theorem dX1_state_71 : decode cX1_state 71 = .ok (.if_icmp .ne 11, 3) := by decide +kernel
theorem dX1_state_74 : decode cX1_state 74 = .ok (.aload_n 0, 1) := by decide +kernel
theorem dX1_state_75 : decode cX1_state 75 = .ok (.iload_n 3, 1) := by decide +kernel
theorem dX1_state_76 : decode cX1_state 76 = .ok (.invokevirtual 72, 3) := by decide +kernel
theorem dX1_state_79 : decode cX1_state 79 = .ok (.goto 9, 3) := by decide +kernel
theorem dX1_state_82 : decode cX1_state 82 = .ok (.aload_n 0, 1) := by decide +kernel
theorem dX1_state_83 : decode cX1_state 83 = .ok (.getfield 13, 3) := by decide +kernel
theorem dX1_state_86 : decode cX1_state 86 = .ok (.iload_n 3, 1) := by decide +kernel
theorem dX1_state_87 : decode cX1_state 87 = .ok (.iaload, 1) := by decide +kernel
theorem dX1_state_88 : decode cX1_state 88 = .ok (.ireturn, 1) := by decide +kernel
theorem dX1_count_0 : decode cX1_count 0 = .ok (.aload_n 0, 1) := by decide +kernel
theorem dX1_count_1 : decode cX1_count 1 = .ok (.iconst 0, 1) := by decide +kernel
theorem dX1_count_2 : decode cX1_count 2 = .ok (.putfield 36, 3) := by decide +kernel
theorem dX1_count_5 : decode cX1_count 5 = .ok (.iload_n 1, 1) := by decide +kernel
theorem dX1_count_6 : decode cX1_count 6 = .ok (.ifCond .ne 10, 3) := by decide +kernel
theorem dX1_count_9 : decode cX1_count 9 = .ok (.aload_n 0, 1) := by decide +kernel
theorem dX1_count_10 : decode cX1_count 10 = .ok (.invokevirtual 57, 3) := by decide +kernel
theorem dX1_count_13 : decode cX1_count 13 = .ok (.goto 28, 3) := by decide +kernel
theorem dX1_count_16 : decode cX1_count 16 = .ok (.iload_n 1, 1) := by decide +kernel
theorem dX1_count_17 : decode cX1_count 17 = .ok (.iconst 1, 1) := by decide +kernel
theorem dX1_count_18 : decode cX1_count 18 = .ok (.if_icmp .ne 10, 3) := by decide +kernel
theorem dX1_count_21 : decode cX1_count 21 = .ok (.aload_n 0, 1) := by decide +kernel
theorem dX1_count_22 : decode cX1_count 22 = .ok (.getfield 40, 3) := by decide +kernel
theorem dX1_count_25 : decode cX1_count 25 = .ok (.goto 16, 3) := by decide +kernel
theorem dX1_count_28 : decode cX1_count 28 = .ok (.iload_n 1, 1) := by decide +kernel
theorem dX1_count_29 : decode cX1_count 29 = .ok (.iconst 2, 1) := by decide +kernel
theorem dX1_count_30 : decode cX1_count 30 = .ok (.if_icmp .ne 10, 3) := by decide +kernel
theorem dX1_count_33 : decode cX1_count 33 = .ok (.aload_n 0, 1) := by decide +kernel
theorem dX1_count_34 : decode cX1_count 34 = .ok (.getfield 50, 3) := by decide +kernel
theorem dX1_count_37 : decode cX1_count 37 = .ok (.goto 4, 3) := by decide +kernel
theorem dX1_count_40 : decode cX1_count 40 = .ok (.iconst (-1), 1) := by decide +kernel
theorem dX1_count_41 : decode cX1_count 41 = .ok (.ireturn, 1) := by decide +kernel
end
section
theorem dL_make_0 : decode cL_make 0 = .ok (.aload 4, 2) := by decide +kernel
theorem dL_make_2 : decode cL_make 2 = .ok (.iconst 0, 1) := by decide +kernel
theorem dL_make_3 : decode cL_make 3 = .ok (.aload_n 0, 1) := by decide +kernel
theorem dL_make_4 : decode cL_make 4 = .ok (.iload_n 1, 1) := by decide +kernel
theorem dL_make_5 : decode cL_make 5 = .ok (.iload_n 2, 1) := by decide +kernel
theorem dL_make_6 : decode cL_make 6 = .ok (.iload_n 3, 1) := by decide +kernel
theorem dL_make_7 : decode cL_make 7 = .ok (.invokevirtual 7, 3) := by decide +kernel
theorem dL_make_10 : decode cL_make 10 = .ok (.i2l, 1) := by decide +kernel
theorem dL_make_11 : decode cL_make 11 = .ok (.lastore, 1) := by decide +kernel
theorem dL_make_12 : decode cL_make 12 = .ok (.goto 11, 3) := by decide +kernel
theorem dL_make_15 : decode cL_make 15 = .ok (.astore 5, 2) := by decide +kernel
theorem dL_make_17 : decode cL_make 17 = .ok (.iconst 1, 1) := by decide +kernel
theorem dL_make_18 : decode cL_make 18 = .ok (.ireturn, 1) := by decide +kernel
theorem dL_make_19 : decode cL_make 19 = .ok (.astore 5, 2) := by decide +kernel
theorem dL_make_21 : decode cL_make 21 = .ok (.iconst 2, 1) := by decide +kernel
theorem dL_make_22 : decode cL_make 22 = .ok (.ireturn, 1) := by decide +kernel
theorem dL_make_23 : decode cL_make 23 = .ok (.iconst 0, 1) := by decide +kernel
theorem dL_make_24 : decode cL_make 24 = .ok (.ireturn, 1) := by decide +kernel
theorem dL_weak_0 : decode cL_weak 0 = .ok (.aload_n 3, 1) := by decide +kernel
theorem dL_weak_1 : decode cL_weak 1 = .ok (.iconst 0, 1) := by decide +kernel
theorem dL_weak_2 : decode cL_weak 2 = .ok (.aload_n 0, 1) := by decide +kernel
theorem dL_weak_3 : decode cL_weak 3 = .ok (.iload_n 1, 1) := by decide +kernel
theorem dL_weak_4 : decode cL_weak 4 = .ok (.iload_n 2, 1) := by decide +kernel
theorem dL_weak_5 : decode cL_weak 5 = .ok (.invokevirtual 17, 3) := by decide +kernel
theorem dL_weak_8 : decode cL_weak 8 = .ok (.i2l, 1) := by decide +kernel
theorem dL_weak_9 : decode cL_weak 9 = .ok (.lastore, 1) := by decide +kernel
theorem dL_weak_10 : decode cL_weak 10 = .ok (.goto 15, 3) := by decide +kernel
theorem dL_weak_13 : decode cL_weak 13 = .ok (.astore 4, 2) := by decide +kernel
theorem dL_weak_15 : decode cL_weak 15 = .ok (.iconst 1, 1) := by decide +kernel
theorem dL_weak_16 : decode cL_weak 16 = .ok (.ireturn, 1) := by decide +kernel
theorem dL_weak_17 : decode cL_weak 17 = .ok (.astore 4, 2) := by decide +kernel
theorem dL_weak_19 : decode cL_weak 19 = .ok (.iconst 2, 1) := by decide +kernel
theorem dL_weak_20 : decode cL_weak 20 = .ok (.ireturn, 1) := by decide +kernel
theorem dL_weak_21 : decode cL_weak 21 = .ok (.astore 4, 2) := by decide +kernel
theorem dL_weak_23 : decode cL_weak 23 = .ok (.iconst 3, 1) := by decide +kernel
theorem dL_weak_24 : decode cL_weak 24 = .ok (.ireturn, 1) := by decide +kernel
theorem dL_weak_25 : decode cL_weak 25 = .ok (.iconst 0, 1) := by decide +kernel
theorem dL_weak_26 : decode cL_weak 26 = .ok (.ireturn, 1) := by decide +kernel
theorem dL_copy_0 : decode cL_copy 0 = .ok (.aload_n 0, 1) := by decide +kernel
theorem dL_copy_1 : decode cL_copy 1 = .ok (.iload_n 1, 1) := by decide +kernel
theorem dL_copy_2 : decode cL_copy 2 = .ok (.iload_n 2, 1) := by decide +kernel
theorem dL_copy_3 : decode cL_copy 3 = .ok (.invokevirtual 23, 3) := by decide +kernel
theorem dL_copy_6 : decode cL_copy 6 = .ok (.goto 6, 3) := by decide +kernel
theorem dL_copy_9 : decode cL_copy 9 = .ok (.astore_n 3, 1) := by decide +kernel
theorem dL_copy_10 : decode cL_copy 10 = .ok (.iconst 1, 1) := by decide +kernel
theorem dL_copy_11 : decode cL_copy 11 = .ok (.ireturn, 1) := by decide +kernel
theorem dL_copy_12 : decode cL_copy 12 = .ok (.iconst 0, 1) := by decide +kernel
theorem dL_copy_13 : decode cL_copy 13 = .ok (.ireturn, 1) := by decide +kernel
theorem dL_drop_0 : decode cL_drop 0 = .ok (.aload_n 0, 1) := by decide +kernel
theorem dL_drop_1 : decode cL_drop 1 = .ok (.iload_n 1, 1) := by decide +kernel
theorem dL_drop_2 : decode cL_drop 2 = .ok (.invokevirtual 27, 3) := by decide +kernel
theorem dL_drop_5 : decode cL_drop 5 = .ok (.goto 6, 3) := by decide +kernel
theorem dL_drop_8 : decode cL_drop 8 = .ok (.astore_n 2, 1) := by decide +kernel
theorem dL_drop_9 : decode cL_drop 9 = .ok (.iconst 1, 1) := by decide +kernel
theorem dL_drop_10 : decode cL_drop 10 = .ok (.ireturn, 1) := by decide +kernel
theorem dL_drop_11 : decode cL_drop 11 = .ok (.iconst 0, 1) := by decide +kernel
theorem dL_drop_12 : decode cL_drop 12 = .ok (.ireturn, 1) := by decide +kernel
theorem dL_link_0 : decode cL_link 0 = .ok (.aload_n 0, 1) := by decide +kernel
theorem dL_link_1 : decode cL_link 1 = .ok (.iload_n 1, 1) := by decide +kernel
theorem dL_link_2 : decode cL_link 2 = .ok (.iload_n 2, 1) := by decide +kernel
theorem dL_link_3 : decode cL_link 3 = .ok (.iload_n 3, 1) := by decide +kernel
theorem dL_link_4 : decode cL_link 4 = .ok (.invokevirtual 31, 3) := by decide +kernel
theorem dL_link_7 : decode cL_link 7 = .ok (.goto 11, 3) := by decide +kernel
theorem dL_link_10 : decode cL_link 10 = .ok (.astore 4, 2) := by decide +kernel
theorem dL_link_12 : decode cL_link 12 = .ok (.iconst 1, 1) := by decide +kernel
theorem dL_link_13 : decode cL_link 13 = .ok (.ireturn, 1) := by decide +kernel
theorem dL_link_14 : decode cL_link 14 = .ok (.astore 4, 2) := by decide +kernel
theorem dL_link_16 : decode cL_link 16 = .ok (.iconst 2, 1) := by decide +kernel
theorem dL_link_17 : decode cL_link 17 = .ok (.ireturn, 1) := by decide +kernel
theorem dL_link_18 : decode cL_link 18 = .ok (.iconst 0, 1) := by decide +kernel
theorem dL_link_19 : decode cL_link 19 = .ok (.ireturn, 1) := by decide +kernel
theorem dL_follow_0 : decode cL_follow 0 = .ok (.aload_n 0, 1) := by decide +kernel
theorem dL_follow_1 : decode cL_follow 1 = .ok (.iload_n 1, 1) := by decide +kernel
theorem dL_follow_2 : decode cL_follow 2 = .ok (.iload_n 2, 1) := by decide +kernel
theorem dL_follow_3 : decode cL_follow 3 = .ok (.iload_n 3, 1) := by decide +kernel
theorem dL_follow_4 : decode cL_follow 4 = .ok (.invokevirtual 35, 3) := by decide +kernel
theorem dL_follow_7 : decode cL_follow 7 = .ok (.goto 11, 3) := by decide +kernel
theorem dL_follow_10 : decode cL_follow 10 = .ok (.astore 4, 2) := by decide +kernel
theorem dL_follow_12 : decode cL_follow 12 = .ok (.iconst 1, 1) := by decide +kernel
theorem dL_follow_13 : decode cL_follow 13 = .ok (.ireturn, 1) := by decide +kernel
theorem dL_follow_14 : decode cL_follow 14 = .ok (.astore 4, 2) := by decide +kernel
theorem dL_follow_16 : decode cL_follow 16 = .ok (.iconst 2, 1) := by decide +kernel
theorem dL_follow_17 : decode cL_follow 17 = .ok (.ireturn, 1) := by decide +kernel
theorem dL_follow_18 : decode cL_follow 18 = .ok (.iconst 0, 1) := by decide +kernel
theorem dL_follow_19 : decode cL_follow 19 = .ok (.ireturn, 1) := by decide +kernel
theorem dL_put_0 : decode cL_put 0 = .ok (.aload_n 0, 1) := by decide +kernel
theorem dL_put_1 : decode cL_put 1 = .ok (.iload_n 1, 1) := by decide +kernel
theorem dL_put_2 : decode cL_put 2 = .ok (.iload_n 2, 1) := by decide +kernel
theorem dL_put_3 : decode cL_put 3 = .ok (.lload_n 3, 1) := by decide +kernel
theorem dL_put_4 : decode cL_put 4 = .ok (.invokevirtual 38, 3) := by decide +kernel
theorem dL_put_7 : decode cL_put 7 = .ok (.goto 11, 3) := by decide +kernel
theorem dL_put_10 : decode cL_put 10 = .ok (.astore 5, 2) := by decide +kernel
theorem dL_put_12 : decode cL_put 12 = .ok (.iconst 1, 1) := by decide +kernel
theorem dL_put_13 : decode cL_put 13 = .ok (.ireturn, 1) := by decide +kernel
theorem dL_put_14 : decode cL_put 14 = .ok (.astore 5, 2) := by decide +kernel
theorem dL_put_16 : decode cL_put 16 = .ok (.iconst 2, 1) := by decide +kernel
theorem dL_put_17 : decode cL_put 17 = .ok (.ireturn, 1) := by decide +kernel
theorem dL_put_18 : decode cL_put 18 = .ok (.iconst 0, 1) := by decide +kernel
theorem dL_put_19 : decode cL_put 19 = .ok (.ireturn, 1) := by decide +kernel
theorem dL_get_0 : decode cL_get 0 = .ok (.aload_n 3, 1) := by decide +kernel
theorem dL_get_1 : decode cL_get 1 = .ok (.iconst 0, 1) := by decide +kernel
theorem dL_get_2 : decode cL_get 2 = .ok (.aload_n 0, 1) := by decide +kernel
theorem dL_get_3 : decode cL_get 3 = .ok (.iload_n 1, 1) := by decide +kernel
theorem dL_get_4 : decode cL_get 4 = .ok (.iload_n 2, 1) := by decide +kernel
theorem dL_get_5 : decode cL_get 5 = .ok (.invokevirtual 42, 3) := by decide +kernel
theorem dL_get_8 : decode cL_get 8 = .ok (.lastore, 1) := by decide +kernel
theorem dL_get_9 : decode cL_get 9 = .ok (.goto 11, 3) := by decide +kernel
theorem dL_get_12 : decode cL_get 12 = .ok (.astore 4, 2) := by decide +kernel
theorem dL_get_14 : decode cL_get 14 = .ok (.iconst 1, 1) := by decide +kernel
theorem dL_get_15 : decode cL_get 15 = .ok (.ireturn, 1) := by decide +kernel
theorem dL_get_16 : decode cL_get 16 = .ok (.astore 4, 2) := by decide +kernel
theorem dL_get_18 : decode cL_get 18 = .ok (.iconst 2, 1) := by decide +kernel
theorem dL_get_19 : decode cL_get 19 = .ok (.ireturn, 1) := by decide +kernel
theorem dL_get_20 : decode cL_get 20 = .ok (.iconst 0, 1) := by decide +kernel
theorem dL_get_21 : decode cL_get 21 = .ok (.ireturn, 1) := by decide +kernel
theorem dL_state_0 : decode cL_state 0 = .ok (.aload_n 3, 1) := by decide +kernel
theorem dL_state_1 : decode cL_state 1 = .ok (.iconst 0, 1) := by decide +kernel
theorem dL_state_2 : decode cL_state 2 = .ok (.aload_n 0, 1) := by decide +kernel
theorem dL_state_3 : decode cL_state 3 = .ok (.iload_n 1, 1) := by decide +kernel
theorem dL_state_4 : decode cL_state 4 = .ok (.iload_n 2, 1) := by decide +kernel
theorem dL_state_5 : decode cL_state 5 = .ok (.invokevirtual 46, 3) := by decide +kernel
theorem dL_state_8 : decode cL_state 8 = .ok (.i2l, 1) := by decide +kernel
theorem dL_state_9 : decode cL_state 9 = .ok (.lastore, 1) := by decide +kernel
theorem dL_state_10 : decode cL_state 10 = .ok (.goto 7, 3) := by decide +kernel
theorem dL_state_13 : decode cL_state 13 = .ok (.astore 4, 2) := by decide +kernel
theorem dL_state_15 : decode cL_state 15 = .ok (.iconst 1, 1) := by decide +kernel
theorem dL_state_16 : decode cL_state 16 = .ok (.ireturn, 1) := by decide +kernel
theorem dL_state_17 : decode cL_state 17 = .ok (.iconst 0, 1) := by decide +kernel
theorem dL_state_18 : decode cL_state 18 = .ok (.ireturn, 1) := by decide +kernel
end
section
/-! headers and contents, read by the program -/
theorem hp_1 : (1 : Int32) = nI 1 := by decide +kernel
theorem hp_1a (n : Nat) : 1 + nI n = nI (1 + n) := by rw [hp_1]; exact nI_add 1 n
theorem hp_rkind {M : hp_S} (hW : hp_W M) {ce : Nat → Int64} {o : Nat} (ho : o ∈ hp_L M) (h : ce (hp_pl M o) = hp_h M o) : (ce (hp_pl M o)).toInt32 &&& 3 = nI (hp_k M o) := by
  rw [h]; exact hp_h_kind hW ho
theorem hp_rlen {M : hp_S} (hW : hp_W M) {ce : Nat → Int64} {o : Nat} (ho : o ∈ hp_L M) (h : ce (hp_pl M o) = hp_h M o) : (ce (hp_pl M o)).toInt32 >>> ((2 : Int32) &&& 31) = nI (hp_z M o) := by
  rw [h]; exact hp_h_len hW ho
theorem hp_rsize {M : hp_S} (hW : hp_W M) {ce : Nat → Int64} {o : Nat} (ho : o ∈ hp_L M) (h : ce (hp_pl M o) = hp_h M o) : 1 + (ce (hp_pl M o)).toInt32 >>> ((2 : Int32) &&& 31) = nI (1 + hp_z M o) := by
  rw [hp_rlen hW ho h]; exact hp_1a _
theorem hp_rref {M : hp_S} {ce : Nat → Int64} {o i : Nat} (hk : hp_k M o ≠ 2) (h : ce (hp_pl M o + (1 + i)) = hp_v M o i) : (ce (hp_pl M o + (1 + i))).toInt32 = hp_e M (hp_l M o i) := by
  rw [h]; unfold hp_v; rw [if_neg hk, hp_32]
theorem hp_k1 {M : hp_S} (hW : hp_W M) {o : Nat} (ho : o ∈ hp_L M) {n : Nat} (hn : n < 4) : nI (hp_k M o) = nI n ↔ hp_k M o = n := nI_eq (by have := (hW.2.1 o ho).2.2.2.1; omega) (by omega)
end
section
set_option maxHeartbeats 4000000 in
set_option maxRecDepth 100000 in
theorem c_X0_kindAt (l : Launch) (dC : Nat → ClassId) (dI : Nat → Nat → Nat) (h0 a1 a2 a3 a4 : Nat) (c1 c2 c3 c4 : ClassId) (ce : Nat → Int64) (rg : Nat → Int32) (tk ob co : Int32) (re : Nat → Int32) (rc : Int32) (np : Nat → Int32) (sz : Nat) {j : Nat} (hj : j < 300) : Met l yX0_kindAt wsX0_kindAt ({ frames := 0, cells := 0, slots := 0, locals := 0 }) (va_Pc [.ref h0, .int (nI j)] (hw_pre (dC, dI) vwCl [(c1, .long), (c2, .int), (c3, .int), (c4, .int)] [(h0, .inr (0, [.ref a1, .ref a2, .int tk, .int ob, .int co, .ref a3, .int rc, .ref a4])), (a1, .inl (c1, 300, .inr (.inl ce))), (a2, .inl (c2, 16, .inl rg)), (a3, .inl (c3, 300, .inl re)), (a4, .inl (c4, 300, .inl np))] sz)) (QcRead ((ce j).toInt32 &&& 3)) 0 0 (fun _ => False) := by
  refine Met.ofW (cc := cX0_kindAt) (maxL := 2) (ret := some .int) (by decide) rfl ?_
  intro p e s m args below meth c s₁ B hml hv
  obtain ⟨rfl, hsz, hP, hK, hD0⟩ := hv
  have hx := B.exec
  have hb := B.bytes
  have hr := B.returns
  have hts : ∀ w ∈ wb, w.before _ s = true := fun w h => atoms_spec (ws := wsX0_kindAt) B.pre w (List.mem_cons_of_mem _ h)
  have hown : s.vm.findClass RX0 = some m.cls := findClass_of_methodNamed B.named
  have hlocks := B.notSynchronized
  subst hsz
  have hD := hD0
  have hl := lv_entry ([.ref h0, .int (nI j)]) (n := 2) (Nat.le_of_ble_eq_true rfl)
  rw [lg_entry_eq]
  generalize (lg_sl ([.ref h0, .int (nI j)]) ++ List.replicate (2 - (lg_sl ([.ref h0, .int (nI j)])).length) Slot.unset).toArray = ls at hl ⊢
  have hl : lv_has ls 2 [(0, .ref h0), (1, .int (nI j))] := hl
  refine lv_aload_n hx hb dX0_kindAt_0 rfl (lv_at hl 0 rfl) ?_
  refine va_get (D := (dC, dI)) (ci := 0) (v := .ref a1) (C := RX0) (T := TX0) (N := 8) hx hb hts inX0 hown hK hP 0 rfl rfl 0 (by decide) (hts _ bw_fl_X0_9) (fun _ h9 => h9) rfl dX0_kindAt_1 ?_
  refine lv_iload_n hx hb dX0_kindAt_4 rfl (lv_at hl 1 rfl) ?_
  refine hw_lald (j := j) hx hb hK hP 1 0 rfl rfl (rfl) (hj) (by decide) dX0_kindAt_5 ?_
  refine lv_l2i hx hb dX0_kindAt_6 rfl ?_
  refine lv_iconst (v := 3) hx hb dX0_kindAt_7 (by decide) ?_
  refine lv_iand hx hb dX0_kindAt_8 ?_
  exact W.iret (v := (((ce j).toInt32) &&& 3)) hx hb hr (fun t ht hW => ⟨rfl, ht⟩) (fun q h => nomatch h) dX0_kindAt_9

set_option maxHeartbeats 4000000 in
set_option maxRecDepth 100000 in
theorem c_X0_lengthAt (l : Launch) (dC : Nat → ClassId) (dI : Nat → Nat → Nat) (h0 a1 a2 a3 a4 : Nat) (c1 c2 c3 c4 : ClassId) (ce : Nat → Int64) (rg : Nat → Int32) (tk ob co : Int32) (re : Nat → Int32) (rc : Int32) (np : Nat → Int32) (sz : Nat) {j : Nat} (hj : j < 300) : Met l yX0_lengthAt wsX0_lengthAt ({ frames := 0, cells := 0, slots := 0, locals := 0 }) (va_Pc [.ref h0, .int (nI j)] (hw_pre (dC, dI) vwCl [(c1, .long), (c2, .int), (c3, .int), (c4, .int)] [(h0, .inr (0, [.ref a1, .ref a2, .int tk, .int ob, .int co, .ref a3, .int rc, .ref a4])), (a1, .inl (c1, 300, .inr (.inl ce))), (a2, .inl (c2, 16, .inl rg)), (a3, .inl (c3, 300, .inl re)), (a4, .inl (c4, 300, .inl np))] sz)) (QcRead ((ce j).toInt32 >>> ((2 : Int32) &&& 31))) 0 0 (fun _ => False) := by
  refine Met.ofW (cc := cX0_lengthAt) (maxL := 2) (ret := some .int) (by decide) rfl ?_
  intro p e s m args below meth c s₁ B hml hv
  obtain ⟨rfl, hsz, hP, hK, hD0⟩ := hv
  have hx := B.exec
  have hb := B.bytes
  have hr := B.returns
  have hts : ∀ w ∈ wb, w.before _ s = true := fun w h => atoms_spec (ws := wsX0_lengthAt) B.pre w (List.mem_cons_of_mem _ h)
  have hown : s.vm.findClass RX0 = some m.cls := findClass_of_methodNamed B.named
  have hlocks := B.notSynchronized
  subst hsz
  have hD := hD0
  have hl := lv_entry ([.ref h0, .int (nI j)]) (n := 2) (Nat.le_of_ble_eq_true rfl)
  rw [lg_entry_eq]
  generalize (lg_sl ([.ref h0, .int (nI j)]) ++ List.replicate (2 - (lg_sl ([.ref h0, .int (nI j)])).length) Slot.unset).toArray = ls at hl ⊢
  have hl : lv_has ls 2 [(0, .ref h0), (1, .int (nI j))] := hl
  refine lv_aload_n hx hb dX0_lengthAt_0 rfl (lv_at hl 0 rfl) ?_
  refine va_get (D := (dC, dI)) (ci := 0) (v := .ref a1) (C := RX0) (T := TX0) (N := 8) hx hb hts inX0 hown hK hP 0 rfl rfl 0 (by decide) (hts _ bw_fl_X0_9) (fun _ h9 => h9) rfl dX0_lengthAt_1 ?_
  refine lv_iload_n hx hb dX0_lengthAt_4 rfl (lv_at hl 1 rfl) ?_
  refine hw_lald (j := j) hx hb hK hP 1 0 rfl rfl (rfl) (hj) (by decide) dX0_lengthAt_5 ?_
  refine lv_l2i hx hb dX0_lengthAt_6 rfl ?_
  refine lv_iconst (v := 2) hx hb dX0_lengthAt_7 (by decide) ?_
  refine lv_ishr hx hb dX0_lengthAt_8 ?_
  exact W.iret (v := (((ce j).toInt32) >>> (2 &&& 31))) hx hb hr (fun t ht hW => ⟨rfl, ht⟩) (fun q h => nomatch h) dX0_lengthAt_9

set_option maxHeartbeats 4000000 in
set_option maxRecDepth 100000 in
theorem c_X0_sizeAt (l : Launch) (dC : Nat → ClassId) (dI : Nat → Nat → Nat) (h0 a1 a2 a3 a4 : Nat) (c1 c2 c3 c4 : ClassId) (ce : Nat → Int64) (rg : Nat → Int32) (tk ob co : Int32) (re : Nat → Int32) (rc : Int32) (np : Nat → Int32) (sz : Nat) {j : Nat} (hj : j < 300) : Met l yX0_sizeAt wsX0_sizeAt ({ frames := 1, cells := 0, slots := 0, locals := 21 }) (va_Pc [.ref h0, .int (nI j)] (hw_pre (dC, dI) vwCl [(c1, .long), (c2, .int), (c3, .int), (c4, .int)] [(h0, .inr (0, [.ref a1, .ref a2, .int tk, .int ob, .int co, .ref a3, .int rc, .ref a4])), (a1, .inl (c1, 300, .inr (.inl ce))), (a2, .inl (c2, 16, .inl rg)), (a3, .inl (c3, 300, .inl re)), (a4, .inl (c4, 300, .inl np))] sz)) (QcRead (1 + (ce j).toInt32 >>> ((2 : Int32) &&& 31))) 0 0 (fun _ => False) := by
  refine Met.ofW (cc := cX0_sizeAt) (maxL := 2) (ret := some .int) (by decide) rfl ?_
  intro p e s m args below meth c s₁ B hml hv
  obtain ⟨rfl, hsz, hP, hK, hD0⟩ := hv
  have hx := B.exec
  have hb := B.bytes
  have hr := B.returns
  have hts : ∀ w ∈ wb, w.before _ s = true := fun w h => atoms_spec (ws := wsX0_sizeAt) B.pre w (List.mem_cons_of_mem _ h)
  have hown : s.vm.findClass RX0 = some m.cls := findClass_of_methodNamed B.named
  have hlocks := B.notSynchronized
  subst hsz
  have hD := hD0
  have hl := lv_entry ([.ref h0, .int (nI j)]) (n := 2) (Nat.le_of_ble_eq_true rfl)
  rw [lg_entry_eq]
  generalize (lg_sl ([.ref h0, .int (nI j)]) ++ List.replicate (2 - (lg_sl ([.ref h0, .int (nI j)])).length) Slot.unset).toArray = ls at hl ⊢
  have hl : lv_has ls 2 [(0, .ref h0), (1, .int (nI j))] := hl
  refine lv_iconst (v := 1) hx hb dX0_sizeAt_0 (by decide) ?_
  refine lv_aload_n hx hb dX0_sizeAt_1 rfl (lv_at hl 0 rfl) ?_
  refine lv_iload_n hx hb dX0_sizeAt_2 rfl (lv_at hl 1 rfl) ?_
  refine W.callR (W.runV (As := [.int (nI j)]) (rest := [.int 1]) ⟨hx, hb, hml, hown, hts⟩ (c_X0_lengthAt l dC dI h0 a1 a2 a3 a4 c1 c2 c3 c4 ce rg tk ob co re rc np _ hj) (cwV 1 hts gw_X0_67 rfl rfl rfl ⟨rfl, by decide, by decide, by decide +kernel⟩ ⟨Nat.le_of_ble_eq_true rfl, Nat.le_of_ble_eq_true rfl⟩) ⟨hw_blind, va_recv (q0 := 0) (ci := 0) (q := (RX0, TX0, 8)) hK hP rfl rfl, hw_pay hP hK hD⟩ rfl rfl hl.1 rfl (lv_room (Nat.le_of_ble_eq_true rfl)) dX0_sizeAt_3 ⟨by decide, by decide⟩) ?_
  refine lv_iadd hx hb dX0_sizeAt_6 ?_
  exact W.iret (v := (1 + ((ce j).toInt32 >>> ((2 : Int32) &&& 31)))) hx hb hr (fun t ht hW => ⟨rfl, ht⟩) (fun q h => nomatch h) dX0_sizeAt_7

set_option maxHeartbeats 4000000 in
set_option maxRecDepth 100000 in
theorem c_X0_hasRoom (l : Launch) (dC : Nat → ClassId) (dI : Nat → Nat → Nat) (h0 a1 a2 a3 a4 : Nat) (c1 c2 c3 c4 : ClassId) (ce : Nat → Int64) (rg : Nat → Int32) (tk ob co : Int32) (re : Nat → Int32) (rc : Int32) (np : Nat → Int32) (sz : Nat) (n : Int32) : Met l yX0_hasRoom wsX0_hasRoom ({ frames := 0, cells := 0, slots := 0, locals := 0 }) (va_Pc [.ref h0, .int n] (hw_pre (dC, dI) vwCl [(c1, .long), (c2, .int), (c3, .int), (c4, .int)] [(h0, .inr (0, [.ref a1, .ref a2, .int tk, .int ob, .int co, .ref a3, .int rc, .ref a4])), (a1, .inl (c1, 300, .inr (.inl ce))), (a2, .inl (c2, 16, .inl rg)), (a3, .inl (c3, 300, .inl re)), (a4, .inl (c4, 300, .inl np))] sz)) (QcRead (if tk + 1 + n ≤ 300 then 1 else 0)) 0 0 (fun _ => False) := by
  refine Met.ofW (cc := cX0_hasRoom) (maxL := 2) (ret := some .boolean) (by decide) rfl ?_
  intro p e s m args below meth c s₁ B hml hv
  obtain ⟨rfl, hsz, hP, hK, hD0⟩ := hv
  have hx := B.exec
  have hb := B.bytes
  have hr := B.returns
  have hts : ∀ w ∈ wb, w.before _ s = true := fun w h => atoms_spec (ws := wsX0_hasRoom) B.pre w (List.mem_cons_of_mem _ h)
  have hown : s.vm.findClass RX0 = some m.cls := findClass_of_methodNamed B.named
  have hlocks := B.notSynchronized
  subst hsz
  have hD := hD0
  have hl := lv_entry ([.ref h0, .int n]) (n := 2) (Nat.le_of_ble_eq_true rfl)
  rw [lg_entry_eq]
  generalize (lg_sl ([.ref h0, .int n]) ++ List.replicate (2 - (lg_sl ([.ref h0, .int n])).length) Slot.unset).toArray = ls at hl ⊢
  have hl : lv_has ls 2 [(0, .ref h0), (1, .int n)] := hl
  refine lv_aload_n hx hb dX0_hasRoom_0 rfl (lv_at hl 0 rfl) ?_
  refine va_get (D := (dC, dI)) (ci := 0) (v := .int tk) (C := RX0) (T := TX0) (N := 8) hx hb hts inX0 hown hK hP 0 rfl rfl 2 (by decide) (hts _ bw_fl_X0_17) (fun _ h9 => h9) rfl dX0_hasRoom_1 ?_
  refine lv_iconst (v := 1) hx hb dX0_hasRoom_4 (by decide) ?_
  refine lv_iadd hx hb dX0_hasRoom_5 ?_
  refine lv_iload_n hx hb dX0_hasRoom_6 rfl (lv_at hl 1 rfl) ?_
  refine lv_iadd hx hb dX0_hasRoom_7 ?_
  refine lv_sipush (v := 300) hx hb dX0_hasRoom_8 (by decide) ?_
  refine lv_icmp_gt hx hb dX0_hasRoom_11 (tgt := 18) (by decide) (fun hc => ?_) (fun hc => ?_)
  · have hc2 : ¬ tk + 1 + n ≤ 300 := fun h9 => Int32.not_lt.mpr h9 hc
    refine lv_iconst (v := 0) hx hb dX0_hasRoom_18 (by decide) ?_
    exact W.zret (v := 0) hx hb hr rfl (fun t ht hW => ⟨by rw [if_neg hc2], ht⟩) (fun q h => nomatch h) dX0_hasRoom_19
  · have hc2 : tk + 1 + n ≤ 300 := Int32.not_lt.mp hc
    refine lv_iconst (v := 1) hx hb dX0_hasRoom_14 (by decide) ?_
    refine lv_goto hx hb dX0_hasRoom_15 (tgt := 19) (by decide) ?_
    exact W.zret (v := 1) hx hb hr rfl (fun t ht hW => ⟨by rw [if_pos hc2], ht⟩) (fun q h => nomatch h) dX0_hasRoom_19

set_option maxHeartbeats 4000000 in
set_option maxRecDepth 100000 in
theorem c_X0_newPlaceOf (l : Launch) (dC : Nat → ClassId) (dI : Nat → Nat → Nat) (h0 a1 a2 a3 a4 : Nat) (c1 c2 c3 c4 : ClassId) (ce : Nat → Int64) (rg : Nat → Int32) (tk ob co : Int32) (re : Nat → Int32) (rc : Int32) (np : Nat → Int32) (sz : Nat) {x : Int32} (hx1 : x = -1 ∨ ∃ j : Nat, j < 300 ∧ x = nI j) : Met l yX0_newPlaceOf wsX0_newPlaceOf ({ frames := 0, cells := 0, slots := 0, locals := 0 }) (va_Pc [.ref h0, .int x] (hw_pre (dC, dI) vwCl [(c1, .long), (c2, .int), (c3, .int), (c4, .int)] [(h0, .inr (0, [.ref a1, .ref a2, .int tk, .int ob, .int co, .ref a3, .int rc, .ref a4])), (a1, .inl (c1, 300, .inr (.inl ce))), (a2, .inl (c2, 16, .inl rg)), (a3, .inl (c3, 300, .inl re)), (a4, .inl (c4, 300, .inl np))] sz)) (QcRead (hp_nw np x)) 0 0 (fun _ => False) := by
  refine Met.ofW (cc := cX0_newPlaceOf) (maxL := 2) (ret := some .int) (by decide) rfl ?_
  intro p e s m args below meth c s₁ B hml hv
  obtain ⟨rfl, hsz, hP, hK, hD0⟩ := hv
  have hx := B.exec
  have hb := B.bytes
  have hr := B.returns
  have hts : ∀ w ∈ wb, w.before _ s = true := fun w h => atoms_spec (ws := wsX0_newPlaceOf) B.pre w (List.mem_cons_of_mem _ h)
  have hown : s.vm.findClass RX0 = some m.cls := findClass_of_methodNamed B.named
  have hlocks := B.notSynchronized
  subst hsz
  have hD := hD0
  have hl := lv_entry ([.ref h0, .int x]) (n := 2) (Nat.le_of_ble_eq_true rfl)
  rw [lg_entry_eq]
  generalize (lg_sl ([.ref h0, .int x]) ++ List.replicate (2 - (lg_sl ([.ref h0, .int x])).length) Slot.unset).toArray = ls at hl ⊢
  have hl : lv_has ls 2 [(0, .ref h0), (1, .int x)] := hl
  refine lv_iload_n hx hb dX0_newPlaceOf_0 rfl (lv_at hl 1 rfl) ?_
  refine lv_iconst (v := (-1)) hx hb dX0_newPlaceOf_1 (by decide) ?_
  refine lv_icmp_ne hx hb dX0_newPlaceOf_2 (tgt := 9) (by decide) (fun hc => ?_) (fun hc => ?_)
  · obtain ⟨j, hj, rfl⟩ := hx1.resolve_left hc
    refine lv_aload_n hx hb dX0_newPlaceOf_9 rfl (lv_at hl 0 rfl) ?_
    refine va_get (D := (dC, dI)) (ci := 0) (v := .ref a4) (C := RX0) (T := TX0) (N := 8) hx hb hts inX0 hown hK hP 0 rfl rfl 7 (by decide) (hts _ bw_fl_X0_33) (fun _ h9 => h9) rfl dX0_newPlaceOf_10 ?_
    refine lv_iload_n hx hb dX0_newPlaceOf_13 rfl (lv_at hl 1 rfl) ?_
    refine hw_iald (j := j) hx hb hK hP 4 3 rfl rfl (rfl) (hj) (by decide) dX0_newPlaceOf_14 ?_
    exact W.iret (v := (np j)) hx hb hr (fun t ht hW => ⟨by unfold hp_nw; rw [if_neg hc, nI_clamp (by omega)], ht⟩) (fun q h => nomatch h) dX0_newPlaceOf_15
  · skip
    refine lv_iconst (v := (-1)) hx hb dX0_newPlaceOf_5 (by decide) ?_
    refine lv_goto hx hb dX0_newPlaceOf_6 (tgt := 15) (by decide) ?_
    exact W.iret (v := (-1)) hx hb hr (fun t ht hW => ⟨by unfold hp_nw; rw [if_pos hc], ht⟩) (fun q h => nomatch h) dX0_newPlaceOf_15
end
section
set_option maxHeartbeats 4000000 in
set_option maxRecDepth 100000 in
/-- Arrays.fill of ints -/
theorem c_J7_fill (l : Launch) (dC : Nat → ClassId) (dI : Nat → Nat → Nat) (a : Nat) (ca : ClassId) (n : Nat) (hn : n < 2 ^ 31) (f : Nat → Int32) (sz : Nat) (v : Int32) : Met l yJ7_fill wsJ7_fill ({ frames := 0, cells := 0, slots := 0, locals := 0 }) (va_Pc [.ref a, .int v] (hw_pre (dC, dI) vwCl [(ca, .int)] [(a, .inl (ca, n, .inl f))] sz)) (va_Qv (fun u : Nat → Int32 => ∀ j, j < n → u j = v) (fun u t => hw_B (dC, dI) vwCl [(ca, .int)] (va_A [(a, .inl (ca, n, .inl f))] sz) ((fun u : Nat → Int32 => [(a, .inl (ca, n, .inl u))]) u) t) (va_A [(a, .inl (ca, n, .inl f))] sz)) 0 0 (va_A [(a, .inl (ca, n, .inl f))] sz) := by
  refine Met.ofW (cc := cJ7_fill) (maxL := 4) (ret := none) (by decide) rfl ?_
  intro p e s m args below meth c s₁ B hml hv
  obtain ⟨hargs, hsz, hP, hK, hD0⟩ := hv
  have hx := B.exec
  have hb := B.bytes
  have hr := B.returns
  have hts : ∀ w ∈ wb, w.before _ s = true := fun w h => atoms_spec (ws := wsJ7_fill) B.pre w (List.mem_cons_of_mem _ h)
  have hown : s.vm.findClass RJ7 = some m.cls := findClass_of_methodNamed B.named
  have hlocks := B.notSynchronized
  subst hsz
  have hD := hD0.self (sz := s.heap.size)
  generalize hAe : va_A [(a, .inl (ca, n, .inl f))] s.heap.size = A at hD ⊢
  have hA : ∀ q : Nat, s.heap.size ≤ q → A q := fun q h => by rw [← hAe]; exact Or.inr h
  have hS : va_S A s.heap s.heap [] := va_S.rf
  generalize hQ9 : MQ below (va_Qv (fun u : Nat → Int32 => ∀ j, j < n → u j = v) (fun u t => hw_B (dC, dI) vwCl [(ca, .int)] A ((fun u : Nat → Int32 => [(a, .inl (ca, n, .inl u))]) u) t) A) args s 0 0 A = Q9
  have hl := lv_entry ([.ref a, .int v]) (n := 4) (Nat.le_of_ble_eq_true rfl)
  rw [show entryFrame m args 4 = _ from (congrArg (fun z => entryFrame m z 4) hargs).trans (lg_entry_eq m [.ref a, .int v] 4)]
  generalize (lg_sl ([.ref a, .int v]) ++ List.replicate (4 - (lg_sl ([.ref a, .int v])).length) Slot.unset).toArray = ls at hl ⊢
  have hl : lv_has ls 4 [(0, .ref a), (1, .int v)] := hl
  obtain ⟨H, hH⟩ : ∃ H, H = s.heap := ⟨_, rfl⟩
  rw [← hH] at hP
  have hS : va_S A s.heap H [] := by rw [hH]; exact hS
  rw [← hH]
  generalize ([] : List Loc) = locs at hS ⊢
  refine lv_iconst (v := 0) hx hb dJ7_fill_0 (by decide) ?_
  refine hw_topi (y := nI 0) (nI_0.symm) ?_
  refine lv_istore_n hx hb dJ7_fill_1 rfl hl (by decide) rfl (fun ls hl => ?_)
  have hl : lv_has ls 4 [(2, .int (nI 0)), (0, .ref a), (1, .int v)] := hl
  refine lv_aload_n hx hb dJ7_fill_2 rfl (lv_at hl 1 rfl) ?_
  refine va_alen (v := nI n) hx hb hK hP 0 0 rfl rfl rfl dJ7_fill_3 ?_
  refine lv_istore_n hx hb dJ7_fill_4 rfl hl (by decide) rfl (fun ls hl => ?_)
  have hl : lv_has ls 4 [(3, .int (nI n)), (2, .int (nI 0)), (0, .ref a), (1, .int v)] := hl
  have loop : ∀ (n9 : Nat) (k : Nat) (f : Nat → Int32) (H : Heap) (locs : List Loc) (ls : Array Slot), n - k < n9 → (k ≤ n ∧ ∀ j, j < k → f j = v) → va_P (dC, dI) vwCl [(a, .inl (ca, n, .inl f))] H → va_D A [(a, .inl (ca, n, .inl f))] → va_S A s.heap H locs → lv_has ls 4 [(3, .int (nI n)), (2, .int (nI k)), (0, .ref a), (1, .int v)] → W p l e (headSpec wsJ7_fill ({ frames := 0, cells := 0, slots := 0, locals := 0 })).room s m args below meth c H locs 0 0 Q9 (F0 m 5 ls []) := by
    intro n9
    induction n9 with
    | zero => intro k f H locs ls hm; exact absurd hm (Nat.not_lt_zero _)
    | succ n9 ih =>
      intro k f H locs ls hm hI hP hD hS hl
      refine lv_iload_n hx hb dJ7_fill_5 rfl (lv_at hl 1 rfl) ?_
      refine lv_iload_n hx hb dJ7_fill_6 rfl (lv_at hl 0 rfl) ?_
      refine lv_icmp_ge hx hb dJ7_fill_7 (tgt := 20) (by decide) (fun hc => ?_) (fun hc => ?_)
      · have hk : k = n := by
          have h1 := (nI_leI hn (Nat.lt_of_le_of_lt hI.1 hn)).mp hc
          omega
        subst hk
        subst hQ9
        exact W.vret hx hb hr (fun t ht hWm => ⟨⟨f, rfl, hI.2, by rw [ht]; exact hP, va_K.moved hWm.alike hK, hD⟩, hS.F ht⟩) hS.2.2 dJ7_fill_20
      · have hk : k < n := Nat.lt_of_not_le (fun h9 => hc ((nI_leI hn (Nat.lt_of_le_of_lt hI.1 hn)).mpr h9))
        refine lv_aload_n hx hb dJ7_fill_10 rfl (lv_at hl 2 rfl) ?_
        refine lv_iload_n hx hb dJ7_fill_11 rfl (lv_at hl 1 rfl) ?_
        refine lv_iload_n hx hb dJ7_fill_12 rfl (lv_at hl 3 rfl) ?_
        refine hw_iast (j := k) hx hb hK hP hD hS 0 0 rfl rfl (rfl) (hk) (hn) dJ7_fill_13 (fun H locs hP hD hS => ?_)
        have hP : va_P (dC, dI) vwCl [(a, .inl (ca, n, .inl (upd f k v)))] H := hP
        have hD : va_D A [(a, .inl (ca, n, .inl (upd f k v)))] := hD
        refine lv_iinc (k := 1) (v := nI (k + 1)) hx hb dJ7_fill_14 hl rfl (nI_1 k) (by decide) rfl (fun ls hl => ?_)
        have hl : lv_has ls 4 [(2, .int (nI (k + 1))), (3, .int (nI n)), (0, .ref a), (1, .int v)] := hl
        refine lv_goto hx hb dJ7_fill_17 (tgt := 5) (by decide) ?_
        exact ih (k + 1) (upd f k v) H locs ls (by omega) (⟨hk, fun j hj => by
            by_cases e9 : j = k
            · subst e9; exact pk_us
            · rw [pk_un e9]; exact hI.2 j (by omega)⟩) hP hD hS (lv_sub hl [1, 0, 2, 3] rfl)
  exact loop _ 0 f H locs ls (Nat.lt_succ_self _) (⟨Nat.zero_le _, fun j hj => absurd hj (Nat.not_lt_zero _)⟩) hP hD hS (lv_sub hl [0, 1, 2, 3] rfl)

set_option maxHeartbeats 4000000 in
set_option maxRecDepth 100000 in
/-- noteReached(place) -/
theorem c_X0_noteReached (l : Launch) (dC : Nat → ClassId) (dI : Nat → Nat → Nat) (h0 a1 a2 a3 a4 : Nat) (c1 c2 c3 c4 : ClassId) (ce : Nat → Int64) (rg : Nat → Int32) (tk ob co : Int32) (re : Nat → Int32) (rc : Int32) (np : Nat → Int32) (sz : Nat) (M : hp_S) (hW : hp_W M) (R : List Nat) (hI : hp_I M R re rc np) (o : Nat) (ho : o = 0 ∨ o ∈ hp_L M) : Met l yX0_noteReached wsX0_noteReached ({ frames := 0, cells := 0, slots := 0, locals := 0 }) (va_Pc [.ref h0, .int (hp_e M o)] (hw_pre (dC, dI) vwCl [(c1, .long), (c2, .int), (c3, .int), (c4, .int)] [(h0, .inr (0, [.ref a1, .ref a2, .int tk, .int ob, .int co, .ref a3, .int rc, .ref a4])), (a1, .inl (c1, 300, .inr (.inl ce))), (a2, .inl (c2, 16, .inl rg)), (a3, .inl (c3, 300, .inl re)), (a4, .inl (c4, 300, .inl np))] sz)) (va_Qv (fun u : (Nat → Int32) × Int32 × (Nat → Int32) => hp_I M (hp_nt R o) u.1 u.2.1 u.2.2) (fun u t => hw_B (dC, dI) vwCl [(c1, .long), (c2, .int), (c3, .int), (c4, .int)] (va_A [(h0, .inr (0, [.ref a1, .ref a2, .int tk, .int ob, .int co, .ref a3, .int rc, .ref a4])), (a1, .inl (c1, 300, .inr (.inl ce))), (a2, .inl (c2, 16, .inl rg)), (a3, .inl (c3, 300, .inl re)), (a4, .inl (c4, 300, .inl np))] sz) ((fun u : (Nat → Int32) × Int32 × (Nat → Int32) => [(h0, .inr (0, [.ref a1, .ref a2, .int tk, .int ob, .int co, .ref a3, .int u.2.1, .ref a4])), (a1, .inl (c1, 300, .inr (.inl ce))), (a2, .inl (c2, 16, .inl rg)), (a3, .inl (c3, 300, .inl u.1)), (a4, .inl (c4, 300, .inl u.2.2))]) u) t) (va_A [(h0, .inr (0, [.ref a1, .ref a2, .int tk, .int ob, .int co, .ref a3, .int rc, .ref a4])), (a1, .inl (c1, 300, .inr (.inl ce))), (a2, .inl (c2, 16, .inl rg)), (a3, .inl (c3, 300, .inl re)), (a4, .inl (c4, 300, .inl np))] sz)) 0 0 (va_A [(h0, .inr (0, [.ref a1, .ref a2, .int tk, .int ob, .int co, .ref a3, .int rc, .ref a4])), (a1, .inl (c1, 300, .inr (.inl ce))), (a2, .inl (c2, 16, .inl rg)), (a3, .inl (c3, 300, .inl re)), (a4, .inl (c4, 300, .inl np))] sz) := by
  refine Met.ofW (cc := cX0_noteReached) (maxL := 2) (ret := none) (by decide) rfl ?_
  intro p e s m args below meth c s₁ B hml hv
  obtain ⟨hargs, hsz, hP, hK, hD0⟩ := hv
  have hx := B.exec
  have hb := B.bytes
  have hr := B.returns
  have hts : ∀ w ∈ wb, w.before _ s = true := fun w h => atoms_spec (ws := wsX0_noteReached) B.pre w (List.mem_cons_of_mem _ h)
  have hown : s.vm.findClass RX0 = some m.cls := findClass_of_methodNamed B.named
  have hlocks := B.notSynchronized
  subst hsz
  have hD := hD0.self (sz := s.heap.size)
  generalize hAe : va_A [(h0, .inr (0, [.ref a1, .ref a2, .int tk, .int ob, .int co, .ref a3, .int rc, .ref a4])), (a1, .inl (c1, 300, .inr (.inl ce))), (a2, .inl (c2, 16, .inl rg)), (a3, .inl (c3, 300, .inl re)), (a4, .inl (c4, 300, .inl np))] s.heap.size = A at hD ⊢
  have hA : ∀ q : Nat, s.heap.size ≤ q → A q := fun q h => by rw [← hAe]; exact Or.inr h
  have hS : va_S A s.heap s.heap [] := va_S.rf
  generalize hQ9 : MQ below (va_Qv (fun u : (Nat → Int32) × Int32 × (Nat → Int32) => hp_I M (hp_nt R o) u.1 u.2.1 u.2.2) (fun u t => hw_B (dC, dI) vwCl [(c1, .long), (c2, .int), (c3, .int), (c4, .int)] A ((fun u : (Nat → Int32) × Int32 × (Nat → Int32) => [(h0, .inr (0, [.ref a1, .ref a2, .int tk, .int ob, .int co, .ref a3, .int u.2.1, .ref a4])), (a1, .inl (c1, 300, .inr (.inl ce))), (a2, .inl (c2, 16, .inl rg)), (a3, .inl (c3, 300, .inl u.1)), (a4, .inl (c4, 300, .inl u.2.2))]) u) t) A) args s 0 0 A = Q9
  have hl := lv_entry ([.ref h0, .int (hp_e M o)]) (n := 2) (Nat.le_of_ble_eq_true rfl)
  rw [show entryFrame m args 2 = _ from (congrArg (fun z => entryFrame m z 2) hargs).trans (lg_entry_eq m [.ref h0, .int (hp_e M o)] 2)]
  generalize (lg_sl ([.ref h0, .int (hp_e M o)]) ++ List.replicate (2 - (lg_sl ([.ref h0, .int (hp_e M o)])).length) Slot.unset).toArray = ls at hl ⊢
  have hl : lv_has ls 2 [(0, .ref h0), (1, .int (hp_e M o))] := hl
  obtain ⟨H, hH⟩ : ∃ H, H = s.heap := ⟨_, rfl⟩
  rw [← hH] at hP
  have hS : va_S A s.heap H [] := by rw [hH]; exact hS
  rw [← hH]
  generalize ([] : List Loc) = locs at hS ⊢
  refine lv_iload_n hx hb dX0_noteReached_0 rfl (lv_at hl 1 rfl) ?_
  refine lv_iconst (v := (-1)) hx hb dX0_noteReached_1 (by decide) ?_
  refine lv_icmp_eq hx hb dX0_noteReached_2 (tgt := 42) (by decide) (fun hc => ?_) (fun hc => ?_)
  · have ho0 : o = 0 := Classical.byContradiction fun h9 => hp_neg1 (by have := hp_pl_lt hW (ho.resolve_left h9); omega) ((hp_en h9).symm.trans hc)
    have hR : hp_nt R o = R := if_pos (Or.inl ho0)
    subst hQ9
    exact W.vret hx hb hr (fun t ht hWm => ⟨⟨(re, rc, np), rfl, by rw [hR]; exact hI, by rw [ht]; exact hP, va_K.moved hWm.alike hK, hD⟩, hS.F ht⟩) hS.2.2 dX0_noteReached_42
  · have ho0 : o ≠ 0 := fun h9 => hc (by rw [h9]; exact hp_e0 M)
    have hoL := ho.resolve_left ho0
    have hlt := hp_pl_lt hW hoL
    have he := hp_en (M := M) ho0
    refine lv_aload_n hx hb dX0_noteReached_5 rfl (lv_at hl 0 rfl) ?_
    refine va_get (D := (dC, dI)) (ci := 0) (v := .ref a4) (C := RX0) (T := TX0) (N := 8) hx hb hts inX0 hown hK hP 0 rfl rfl 7 (by decide) (hts _ bw_fl_X0_33) (fun _ h9 => h9) rfl dX0_noteReached_6 ?_
    refine lv_iload_n hx hb dX0_noteReached_9 rfl (lv_at hl 1 rfl) ?_
    refine hw_iald (j := hp_pl M o) hx hb hK hP 4 3 rfl rfl (he) (by omega) (by decide) dX0_noteReached_10 ?_
    refine lv_iconst (v := (-1)) hx hb dX0_noteReached_11 (by decide) ?_
    refine lv_icmp_ne hx hb dX0_noteReached_12 (tgt := 42) (by decide) (fun hc => ?_) (fun hc => ?_)
    · have hin : o ∈ R := Classical.byContradiction fun h9 => hc (by rw [hI.2.2.2.2 o hoL, if_neg h9])
      have hR : hp_nt R o = R := if_pos (Or.inr hin)
      subst hQ9
      exact W.vret hx hb hr (fun t ht hWm => ⟨⟨(re, rc, np), rfl, by rw [hR]; exact hI, by rw [ht]; exact hP, va_K.moved hWm.alike hK, hD⟩, hS.F ht⟩) hS.2.2 dX0_noteReached_42
    · have hin : o ∉ R := fun h9 => hp_neg1 (by omega) ((by rw [hI.2.2.2.2 o hoL, if_pos h9] : np (hp_pl M o) = nI (hp_pl M o)).symm.trans hc)
      have hR : hp_nt R o = R ++ [o] := if_neg (fun h9 => h9.elim ho0 hin)
      have hlen := hp_I_lt hW hI hoL hin
      have hadd := hp_I_add hI hoL hin
      refine lv_aload_n hx hb dX0_noteReached_15 rfl (lv_at hl 0 rfl) ?_
      refine va_get (D := (dC, dI)) (ci := 0) (v := .ref a4) (C := RX0) (T := TX0) (N := 8) hx hb hts inX0 hown hK hP 0 rfl rfl 7 (by decide) (hts _ bw_fl_X0_33) (fun _ h9 => h9) rfl dX0_noteReached_16 ?_
      refine lv_iload_n hx hb dX0_noteReached_19 rfl (lv_at hl 1 rfl) ?_
      refine lv_iload_n hx hb dX0_noteReached_20 rfl (lv_at hl 1 rfl) ?_
      refine hw_iast (j := hp_pl M o) hx hb hK hP hD hS 4 3 rfl rfl (he) (by omega) (by decide) dX0_noteReached_21 (fun H locs hP hD hS => ?_)
      have hP : va_P (dC, dI) vwCl [(h0, .inr (0, [.ref a1, .ref a2, .int tk, .int ob, .int co, .ref a3, .int rc, .ref a4])), (a1, .inl (c1, 300, .inr (.inl ce))), (a2, .inl (c2, 16, .inl rg)), (a3, .inl (c3, 300, .inl re)), (a4, .inl (c4, 300, .inl (upd np (hp_pl M o) (hp_e M o))))] H := hP
      have hD : va_D A [(h0, .inr (0, [.ref a1, .ref a2, .int tk, .int ob, .int co, .ref a3, .int rc, .ref a4])), (a1, .inl (c1, 300, .inr (.inl ce))), (a2, .inl (c2, 16, .inl rg)), (a3, .inl (c3, 300, .inl re)), (a4, .inl (c4, 300, .inl (upd np (hp_pl M o) (hp_e M o))))] := hD
      refine lv_aload_n hx hb dX0_noteReached_22 rfl (lv_at hl 0 rfl) ?_
      refine va_get (D := (dC, dI)) (ci := 0) (v := .ref a3) (C := RX0) (T := TX0) (N := 8) hx hb hts inX0 hown hK hP 0 rfl rfl 5 (by decide) (hts _ bw_fl_X0_27) (fun _ h9 => h9) rfl dX0_noteReached_23 ?_
      refine lv_aload_n hx hb dX0_noteReached_26 rfl (lv_at hl 0 rfl) ?_
      refine va_get (D := (dC, dI)) (ci := 0) (v := .int rc) (C := RX0) (T := TX0) (N := 8) hx hb hts inX0 hown hK hP 0 rfl rfl 6 (by decide) (hts _ bw_fl_X0_30) (fun _ h9 => h9) rfl dX0_noteReached_27 ?_
      refine lv_iload_n hx hb dX0_noteReached_30 rfl (lv_at hl 1 rfl) ?_
      refine hw_iast (j := R.length) hx hb hK hP hD hS 3 2 rfl rfl (hI.1) (hlen) (by decide) dX0_noteReached_31 (fun H locs hP hD hS => ?_)
      have hP : va_P (dC, dI) vwCl [(h0, .inr (0, [.ref a1, .ref a2, .int tk, .int ob, .int co, .ref a3, .int rc, .ref a4])), (a1, .inl (c1, 300, .inr (.inl ce))), (a2, .inl (c2, 16, .inl rg)), (a3, .inl (c3, 300, .inl (upd re R.length (hp_e M o)))), (a4, .inl (c4, 300, .inl (upd np (hp_pl M o) (hp_e M o))))] H := hP
      have hD : va_D A [(h0, .inr (0, [.ref a1, .ref a2, .int tk, .int ob, .int co, .ref a3, .int rc, .ref a4])), (a1, .inl (c1, 300, .inr (.inl ce))), (a2, .inl (c2, 16, .inl rg)), (a3, .inl (c3, 300, .inl (upd re R.length (hp_e M o)))), (a4, .inl (c4, 300, .inl (upd np (hp_pl M o) (hp_e M o))))] := hD
      refine lv_aload_n hx hb dX0_noteReached_32 rfl (lv_at hl 0 rfl) ?_
      refine lv_dup hx hb dX0_noteReached_33 rfl ?_
      refine va_get (D := (dC, dI)) (ci := 0) (v := .int rc) (C := RX0) (T := TX0) (N := 8) hx hb hts inX0 hown hK hP 0 rfl rfl 6 (by decide) (hts _ bw_fl_X0_30) (fun _ h9 => h9) rfl dX0_noteReached_34 ?_
      refine lv_iconst (v := 1) hx hb dX0_noteReached_37 (by decide) ?_
      refine lv_iadd hx hb dX0_noteReached_38 ?_
      refine hw_topi (y := nI (R.length + 1)) (by rw [hI.1]; exact nI_1 _) ?_
      refine va_put (D := (dC, dI)) (ci := 0) (v := .int (nI (R.length + 1))) (ty := .int) (C := RX0) (T := TX0) (N := 8) hx hb hts inX0 tyX0 tyX0_ok nmX0 hown hK hP hD hS 0 rfl rfl 6 (by decide) (hts _ bw_fl_X0_30) (fun _ h9 => h9) rfl (by decide +kernel) rfl rfl (Nat.le_of_ble_eq_true rfl) dX0_noteReached_39 (fun H locs hP hD hS => ?_)
      have hP : va_P (dC, dI) vwCl [(h0, .inr (0, [.ref a1, .ref a2, .int tk, .int ob, .int co, .ref a3, .int (nI (R.length + 1)), .ref a4])), (a1, .inl (c1, 300, .inr (.inl ce))), (a2, .inl (c2, 16, .inl rg)), (a3, .inl (c3, 300, .inl (upd re R.length (hp_e M o)))), (a4, .inl (c4, 300, .inl (upd np (hp_pl M o) (hp_e M o))))] H := hP
      have hD : va_D A [(h0, .inr (0, [.ref a1, .ref a2, .int tk, .int ob, .int co, .ref a3, .int (nI (R.length + 1)), .ref a4])), (a1, .inl (c1, 300, .inr (.inl ce))), (a2, .inl (c2, 16, .inl rg)), (a3, .inl (c3, 300, .inl (upd re R.length (hp_e M o)))), (a4, .inl (c4, 300, .inl (upd np (hp_pl M o) (hp_e M o))))] := hD
      subst hQ9
      exact W.vret hx hb hr (fun t ht hWm => ⟨⟨((upd re R.length (hp_e M o)), (nI (R.length + 1)), (upd np (hp_pl M o) (hp_e M o))), rfl, by rw [hR, he]; exact hadd, by rw [ht]; exact hP, va_K.moved hWm.alike hK, hD⟩, hS.F ht⟩) hS.2.2 dX0_noteReached_42
end
section
set_option maxHeartbeats 4000000 in
set_option maxRecDepth 100000 in
/-- noteContents(place) -/
theorem c_X0_noteContents (l : Launch) (dC : Nat → ClassId) (dI : Nat → Nat → Nat) (h0 a1 a2 a3 a4 : Nat) (c1 c2 c3 c4 : ClassId) (ce : Nat → Int64) (rg : Nat → Int32) (tk ob co : Int32) (re : Nat → Int32) (rc : Int32) (np : Nat → Int32) (sz : Nat) (M : hp_S) (hW : hp_W M) (co9 : Int32) (hC : hp_C M ce rg tk ob co9) (R : List Nat) (hI : hp_I M R re rc np) (o : Nat) (ho : o ∈ hp_L M) (hk : hp_k M o = 1) : Met l yX0_noteContents wsX0_noteContents ({ frames := 2, cells := 0, slots := 0, locals := 42 }) (va_Pc [.ref h0, .int (nI (hp_pl M o))] (hw_pre (dC, dI) vwCl [(c1, .long), (c2, .int), (c3, .int), (c4, .int)] [(h0, .inr (0, [.ref a1, .ref a2, .int tk, .int ob, .int co, .ref a3, .int rc, .ref a4])), (a1, .inl (c1, 300, .inr (.inl ce))), (a2, .inl (c2, 16, .inl rg)), (a3, .inl (c3, 300, .inl re)), (a4, .inl (c4, 300, .inl np))] sz)) (va_Qv (fun u : (Nat → Int32) × Int32 × (Nat → Int32) => hp_I M (hp_nf (hp_l M o) (hp_z M o) R) u.1 u.2.1 u.2.2) (fun u t => hw_B (dC, dI) vwCl [(c1, .long), (c2, .int), (c3, .int), (c4, .int)] (va_A [(h0, .inr (0, [.ref a1, .ref a2, .int tk, .int ob, .int co, .ref a3, .int rc, .ref a4])), (a1, .inl (c1, 300, .inr (.inl ce))), (a2, .inl (c2, 16, .inl rg)), (a3, .inl (c3, 300, .inl re)), (a4, .inl (c4, 300, .inl np))] sz) ((fun u : (Nat → Int32) × Int32 × (Nat → Int32) => [(h0, .inr (0, [.ref a1, .ref a2, .int tk, .int ob, .int co, .ref a3, .int u.2.1, .ref a4])), (a1, .inl (c1, 300, .inr (.inl ce))), (a2, .inl (c2, 16, .inl rg)), (a3, .inl (c3, 300, .inl u.1)), (a4, .inl (c4, 300, .inl u.2.2))]) u) t) (va_A [(h0, .inr (0, [.ref a1, .ref a2, .int tk, .int ob, .int co, .ref a3, .int rc, .ref a4])), (a1, .inl (c1, 300, .inr (.inl ce))), (a2, .inl (c2, 16, .inl rg)), (a3, .inl (c3, 300, .inl re)), (a4, .inl (c4, 300, .inl np))] sz)) 0 0 (va_A [(h0, .inr (0, [.ref a1, .ref a2, .int tk, .int ob, .int co, .ref a3, .int rc, .ref a4])), (a1, .inl (c1, 300, .inr (.inl ce))), (a2, .inl (c2, 16, .inl rg)), (a3, .inl (c3, 300, .inl re)), (a4, .inl (c4, 300, .inl np))] sz) := by
  refine Met.ofW (cc := cX0_noteContents) (maxL := 4) (ret := none) (by decide) rfl ?_
  intro p e s m args below meth c s₁ B hml hv
  obtain ⟨hargs, hsz, hP, hK, hD0⟩ := hv
  have hx := B.exec
  have hb := B.bytes
  have hr := B.returns
  have hts : ∀ w ∈ wb, w.before _ s = true := fun w h => atoms_spec (ws := wsX0_noteContents) B.pre w (List.mem_cons_of_mem _ h)
  have hown : s.vm.findClass RX0 = some m.cls := findClass_of_methodNamed B.named
  have hlocks := B.notSynchronized
  subst hsz
  have hD := hD0.self (sz := s.heap.size)
  generalize hAe : va_A [(h0, .inr (0, [.ref a1, .ref a2, .int tk, .int ob, .int co, .ref a3, .int rc, .ref a4])), (a1, .inl (c1, 300, .inr (.inl ce))), (a2, .inl (c2, 16, .inl rg)), (a3, .inl (c3, 300, .inl re)), (a4, .inl (c4, 300, .inl np))] s.heap.size = A at hD ⊢
  have hA : ∀ q : Nat, s.heap.size ≤ q → A q := fun q h => by rw [← hAe]; exact Or.inr h
  have hS : va_S A s.heap s.heap [] := va_S.rf
  generalize hQ9 : MQ below (va_Qv (fun u : (Nat → Int32) × Int32 × (Nat → Int32) => hp_I M (hp_nf (hp_l M o) (hp_z M o) R) u.1 u.2.1 u.2.2) (fun u t => hw_B (dC, dI) vwCl [(c1, .long), (c2, .int), (c3, .int), (c4, .int)] A ((fun u : (Nat → Int32) × Int32 × (Nat → Int32) => [(h0, .inr (0, [.ref a1, .ref a2, .int tk, .int ob, .int co, .ref a3, .int u.2.1, .ref a4])), (a1, .inl (c1, 300, .inr (.inl ce))), (a2, .inl (c2, 16, .inl rg)), (a3, .inl (c3, 300, .inl u.1)), (a4, .inl (c4, 300, .inl u.2.2))]) u) t) A) args s 0 0 A = Q9
  have hl := lv_entry ([.ref h0, .int (nI (hp_pl M o))]) (n := 4) (Nat.le_of_ble_eq_true rfl)
  rw [show entryFrame m args 4 = _ from (congrArg (fun z => entryFrame m z 4) hargs).trans (lg_entry_eq m [.ref h0, .int (nI (hp_pl M o))] 4)]
  generalize (lg_sl ([.ref h0, .int (nI (hp_pl M o))]) ++ List.replicate (4 - (lg_sl ([.ref h0, .int (nI (hp_pl M o))])).length) Slot.unset).toArray = ls at hl ⊢
  have hl : lv_has ls 4 [(0, .ref h0), (1, .int (nI (hp_pl M o)))] := hl
  obtain ⟨H, hH⟩ : ∃ H, H = s.heap := ⟨_, rfl⟩
  rw [← hH] at hP
  have hS : va_S A s.heap H [] := by rw [hH]; exact hS
  rw [← hH]
  generalize ([] : List Loc) = locs at hS ⊢
  have hlt := hp_pl_lt hW ho
  have hcell := hC.2.2.2.2 o ho
  have hk2 : hp_k M o ≠ 2 := by omega
  refine lv_iload_n hx hb dX0_noteContents_0 rfl (lv_at hl 1 rfl) ?_
  refine lv_aload_n hx hb dX0_noteContents_1 rfl (lv_at hl 0 rfl) ?_
  refine lv_iload_n hx hb dX0_noteContents_2 rfl (lv_at hl 1 rfl) ?_
  refine W.callR (W.runV (As := [.int (nI (hp_pl M o))]) (rest := [.int (nI (hp_pl M o))]) ⟨hx, hb, hml, hown, hts⟩ (c_X0_sizeAt l dC dI h0 a1 a2 a3 a4 c1 c2 c3 c4 ce rg tk ob co re rc np _ (by omega)) (cwV 1 hts gw_X0_121 rfl rfl rfl ⟨rfl, by decide, by decide, by decide +kernel⟩ ⟨Nat.le_of_ble_eq_true rfl, Nat.le_of_ble_eq_true rfl⟩) ⟨hw_blind, va_recv (q0 := 0) (ci := 0) (q := (RX0, TX0, 8)) hK hP rfl rfl, hw_pay hP hK hD⟩ rfl rfl hl.1 rfl (lv_room (Nat.le_of_ble_eq_true rfl)) dX0_noteContents_3 ⟨by decide, by decide⟩) ?_
  refine W.eq (g2 := F0 m 6 ls [.int (1 + (ce (hp_pl M o)).toInt32 >>> ((2 : Int32) &&& 31)), .int (nI (hp_pl M o))]) rfl ?_
  refine hw_topi (y := nI (1 + hp_z M o)) (hp_rsize hW ho hcell.1) ?_
  refine lv_iadd hx hb dX0_noteContents_6 ?_
  refine hw_topi (y := nI (hp_pl M o + (1 + hp_z M o))) (nI_add _ _) ?_
  refine lv_istore_n hx hb dX0_noteContents_7 rfl hl (by decide) rfl (fun ls hl => ?_)
  have hl : lv_has ls 4 [(2, .int (nI (hp_pl M o + (1 + hp_z M o)))), (0, .ref h0), (1, .int (nI (hp_pl M o)))] := hl
  refine lv_iload_n hx hb dX0_noteContents_8 rfl (lv_at hl 2 rfl) ?_
  refine lv_iconst (v := 1) hx hb dX0_noteContents_9 (by decide) ?_
  refine lv_iadd hx hb dX0_noteContents_10 ?_
  refine hw_topi (y := nI (hp_pl M o + (1 + 0))) (nI_1 _) ?_
  refine lv_istore_n hx hb dX0_noteContents_11 rfl hl (by decide) rfl (fun ls hl => ?_)
  have hl : lv_has ls 4 [(3, .int (nI (hp_pl M o + (1 + 0)))), (2, .int (nI (hp_pl M o + (1 + hp_z M o)))), (0, .ref h0), (1, .int (nI (hp_pl M o)))] := hl
  have loop : ∀ (n9 : Nat) (i : Nat) (re : Nat → Int32) (rc : Int32) (np : Nat → Int32) (H : Heap) (locs : List Loc) (ls : Array Slot), hp_z M o - i < n9 → (i ≤ hp_z M o ∧ hp_I M (hp_nf (hp_l M o) i R) re rc np) → va_P (dC, dI) vwCl [(h0, .inr (0, [.ref a1, .ref a2, .int tk, .int ob, .int co, .ref a3, .int rc, .ref a4])), (a1, .inl (c1, 300, .inr (.inl ce))), (a2, .inl (c2, 16, .inl rg)), (a3, .inl (c3, 300, .inl re)), (a4, .inl (c4, 300, .inl np))] H → va_D A [(h0, .inr (0, [.ref a1, .ref a2, .int tk, .int ob, .int co, .ref a3, .int rc, .ref a4])), (a1, .inl (c1, 300, .inr (.inl ce))), (a2, .inl (c2, 16, .inl rg)), (a3, .inl (c3, 300, .inl re)), (a4, .inl (c4, 300, .inl np))] → va_S A s.heap H locs → lv_has ls 4 [(3, .int (nI (hp_pl M o + (1 + i)))), (2, .int (nI (hp_pl M o + (1 + hp_z M o)))), (0, .ref h0), (1, .int (nI (hp_pl M o)))] → W p l e (headSpec wsX0_noteContents ({ frames := 2, cells := 0, slots := 0, locals := 42 })).room s m args below meth c H locs 0 0 Q9 (F0 m 12 ls []) := by
    intro n9
    induction n9 with
    | zero => intro i re rc np H locs ls hm; exact absurd hm (Nat.not_lt_zero _)
    | succ n9 ih =>
      intro i re rc np H locs ls hm hI hP hD hS hl
      refine lv_iload_n hx hb dX0_noteContents_12 rfl (lv_at hl 0 rfl) ?_
      refine lv_iload_n hx hb dX0_noteContents_13 rfl (lv_at hl 1 rfl) ?_
      refine lv_icmp_ge hx hb dX0_noteContents_14 (tgt := 34) (by decide) (fun hc => ?_) (fun hc => ?_)
      · have hi : i = hp_z M o := by
          have h1 := (nI_leI (by omega) (by omega)).mp hc
          omega
        subst hi
        subst hQ9
        exact W.vret hx hb hr (fun t ht hWm => ⟨⟨(re, rc, np), rfl, hI.2, by rw [ht]; exact hP, va_K.moved hWm.alike hK, hD⟩, hS.F ht⟩) hS.2.2 dX0_noteContents_34
      · have hi : i < hp_z M o := Nat.lt_of_not_le (fun h9 => hc ((nI_leI (by omega) (by omega)).mpr (by omega)))
        refine lv_aload_n hx hb dX0_noteContents_17 rfl (lv_at hl 2 rfl) ?_
        refine lv_aload_n hx hb dX0_noteContents_18 rfl (lv_at hl 2 rfl) ?_
        refine va_get (D := (dC, dI)) (ci := 0) (v := .ref a1) (C := RX0) (T := TX0) (N := 8) hx hb hts inX0 hown hK hP 0 rfl rfl 0 (by decide) (hts _ bw_fl_X0_9) (fun _ h9 => h9) rfl dX0_noteContents_19 ?_
        refine lv_iload_n hx hb dX0_noteContents_22 rfl (lv_at hl 0 rfl) ?_
        refine hw_lald (j := hp_pl M o + (1 + i)) hx hb hK hP 1 0 rfl rfl (rfl) (by omega) (by decide) dX0_noteContents_23 ?_
        refine lv_l2i hx hb dX0_noteContents_24 rfl ?_
        refine hw_topi (y := hp_e M (hp_l M o i)) (hp_rref hk2 (hcell.2 i hi)) ?_
        refine hw_callv (va_runV (As := [.int (hp_e M (hp_l M o i))]) (rest := []) ⟨hx, hb, hml, hown, hts⟩ (c_X0_noteReached l dC dI h0 a1 a2 a3 a4 c1 c2 c3 c4 ce rg tk ob co re rc np _ M hW (hp_nf (hp_l M o) i R) hI.2 (hp_l M o i) (hW.2.2.2.2.1 o ho hk2 i hi)) (cwV 1 hts gw_X0_115 rfl rfl rfl ⟨rfl, by decide, by decide, by decide +kernel⟩ ⟨Nat.le_of_ble_eq_true rfl, Nat.le_of_ble_eq_true rfl⟩) ⟨hw_blind, va_recv (q0 := 0) (ci := 0) (q := (RX0, TX0, 8)) hK hP rfl rfl, hw_pay hP hK hD⟩ rfl rfl hl.1 rfl (lv_room (Nat.le_of_ble_eq_true rfl)) dX0_noteContents_25 ⟨by decide, by decide⟩) hD hS hA (fun u9 H locs hw hP hD hS => ?_)
        obtain ⟨re, rc, np⟩ := u9
        have hP : va_P (dC, dI) vwCl [(h0, .inr (0, [.ref a1, .ref a2, .int tk, .int ob, .int co, .ref a3, .int rc, .ref a4])), (a1, .inl (c1, 300, .inr (.inl ce))), (a2, .inl (c2, 16, .inl rg)), (a3, .inl (c3, 300, .inl re)), (a4, .inl (c4, 300, .inl np))] H := hP
        have hD : va_D A [(h0, .inr (0, [.ref a1, .ref a2, .int tk, .int ob, .int co, .ref a3, .int rc, .ref a4])), (a1, .inl (c1, 300, .inr (.inl ce))), (a2, .inl (c2, 16, .inl rg)), (a3, .inl (c3, 300, .inl re)), (a4, .inl (c4, 300, .inl np))] := hD
        refine lv_iinc (k := 0) (v := nI (hp_pl M o + (1 + (i + 1)))) hx hb dX0_noteContents_28 hl rfl (nI_1 _) (by decide) rfl (fun ls hl => ?_)
        have hl : lv_has ls 4 [(3, .int (nI (hp_pl M o + (1 + (i + 1))))), (2, .int (nI (hp_pl M o + (1 + hp_z M o)))), (0, .ref h0), (1, .int (nI (hp_pl M o)))] := hl
        refine lv_goto hx hb dX0_noteContents_31 (tgt := 12) (by decide) ?_
        exact ih (i + 1) re rc np H locs ls (by omega) (⟨hi, hw⟩) hP hD hS (lv_sub hl [0, 1, 2, 3] rfl)
  exact loop _ 0 re rc np H locs ls (Nat.lt_succ_self _) (⟨Nat.zero_le _, hI⟩) hP hD hS (lv_sub hl [0, 1, 2, 3] rfl)

set_option maxHeartbeats 4000000 in
set_option maxRecDepth 100000 in
/-- findReached() -/
theorem c_X0_findReached (l : Launch) (dC : Nat → ClassId) (dI : Nat → Nat → Nat) (h0 a1 a2 a3 a4 : Nat) (c1 c2 c3 c4 : ClassId) (ce : Nat → Int64) (rg : Nat → Int32) (tk ob co : Int32) (re : Nat → Int32) (rc : Int32) (np : Nat → Int32) (sz : Nat) (M : hp_S) (hW : hp_W M) (co9 : Int32) (hC : hp_C M ce rg tk ob co9) : Met l yX0_findReached wsX0_findReached ({ frames := 3, cells := 0, slots := 0, locals := 65 }) (va_Pc [.ref h0] (hw_pre (dC, dI) vwCl [(c1, .long), (c2, .int), (c3, .int), (c4, .int)] [(h0, .inr (0, [.ref a1, .ref a2, .int tk, .int ob, .int co, .ref a3, .int rc, .ref a4])), (a1, .inl (c1, 300, .inr (.inl ce))), (a2, .inl (c2, 16, .inl rg)), (a3, .inl (c3, 300, .inl re)), (a4, .inl (c4, 300, .inl np))] sz)) (va_Qv (fun u : (Nat → Int32) × Int32 × (Nat → Int32) => ∃ R, hp_I M R u.1 u.2.1 u.2.2 ∧ ∀ o, o ∈ R ↔ hp_b M o = true) (fun u t => hw_B (dC, dI) vwCl [(c1, .long), (c2, .int), (c3, .int), (c4, .int)] (va_A [(h0, .inr (0, [.ref a1, .ref a2, .int tk, .int ob, .int co, .ref a3, .int rc, .ref a4])), (a1, .inl (c1, 300, .inr (.inl ce))), (a2, .inl (c2, 16, .inl rg)), (a3, .inl (c3, 300, .inl re)), (a4, .inl (c4, 300, .inl np))] sz) ((fun u : (Nat → Int32) × Int32 × (Nat → Int32) => [(h0, .inr (0, [.ref a1, .ref a2, .int tk, .int ob, .int co, .ref a3, .int u.2.1, .ref a4])), (a1, .inl (c1, 300, .inr (.inl ce))), (a2, .inl (c2, 16, .inl rg)), (a3, .inl (c3, 300, .inl u.1)), (a4, .inl (c4, 300, .inl u.2.2))]) u) t) (va_A [(h0, .inr (0, [.ref a1, .ref a2, .int tk, .int ob, .int co, .ref a3, .int rc, .ref a4])), (a1, .inl (c1, 300, .inr (.inl ce))), (a2, .inl (c2, 16, .inl rg)), (a3, .inl (c3, 300, .inl re)), (a4, .inl (c4, 300, .inl np))] sz)) 0 0 (va_A [(h0, .inr (0, [.ref a1, .ref a2, .int tk, .int ob, .int co, .ref a3, .int rc, .ref a4])), (a1, .inl (c1, 300, .inr (.inl ce))), (a2, .inl (c2, 16, .inl rg)), (a3, .inl (c3, 300, .inl re)), (a4, .inl (c4, 300, .inl np))] sz) := by
  refine Met.ofW (cc := cX0_findReached) (maxL := 2) (ret := none) (by decide) rfl ?_
  intro p e s m args below meth c s₁ B hml hv
  obtain ⟨hargs, hsz, hP, hK, hD0⟩ := hv
  have hx := B.exec
  have hb := B.bytes
  have hr := B.returns
  have hts : ∀ w ∈ wb, w.before _ s = true := fun w h => atoms_spec (ws := wsX0_findReached) B.pre w (List.mem_cons_of_mem _ h)
  have hown : s.vm.findClass RX0 = some m.cls := findClass_of_methodNamed B.named
  have hlocks := B.notSynchronized
  subst hsz
  have hD := hD0.self (sz := s.heap.size)
  generalize hAe : va_A [(h0, .inr (0, [.ref a1, .ref a2, .int tk, .int ob, .int co, .ref a3, .int rc, .ref a4])), (a1, .inl (c1, 300, .inr (.inl ce))), (a2, .inl (c2, 16, .inl rg)), (a3, .inl (c3, 300, .inl re)), (a4, .inl (c4, 300, .inl np))] s.heap.size = A at hD ⊢
  have hA : ∀ q : Nat, s.heap.size ≤ q → A q := fun q h => by rw [← hAe]; exact Or.inr h
  have hS : va_S A s.heap s.heap [] := va_S.rf
  generalize hQ9 : MQ below (va_Qv (fun u : (Nat → Int32) × Int32 × (Nat → Int32) => ∃ R, hp_I M R u.1 u.2.1 u.2.2 ∧ ∀ o, o ∈ R ↔ hp_b M o = true) (fun u t => hw_B (dC, dI) vwCl [(c1, .long), (c2, .int), (c3, .int), (c4, .int)] A ((fun u : (Nat → Int32) × Int32 × (Nat → Int32) => [(h0, .inr (0, [.ref a1, .ref a2, .int tk, .int ob, .int co, .ref a3, .int u.2.1, .ref a4])), (a1, .inl (c1, 300, .inr (.inl ce))), (a2, .inl (c2, 16, .inl rg)), (a3, .inl (c3, 300, .inl u.1)), (a4, .inl (c4, 300, .inl u.2.2))]) u) t) A) args s 0 0 A = Q9
  have hl := lv_entry ([.ref h0]) (n := 2) (Nat.le_of_ble_eq_true rfl)
  rw [show entryFrame m args 2 = _ from (congrArg (fun z => entryFrame m z 2) hargs).trans (lg_entry_eq m [.ref h0] 2)]
  generalize (lg_sl ([.ref h0]) ++ List.replicate (2 - (lg_sl ([.ref h0])).length) Slot.unset).toArray = ls at hl ⊢
  have hl : lv_has ls 2 [(0, .ref h0)] := hl
  obtain ⟨H, hH⟩ : ∃ H, H = s.heap := ⟨_, rfl⟩
  rw [← hH] at hP
  have hS : va_S A s.heap H [] := by rw [hH]; exact hS
  rw [← hH]
  generalize ([] : List Loc) = locs at hS ⊢
  refine lv_aload_n hx hb dX0_findReached_0 rfl (lv_at hl 0 rfl) ?_
  refine va_get (D := (dC, dI)) (ci := 0) (v := .ref a4) (C := RX0) (T := TX0) (N := 8) hx hb hts inX0 hown hK hP 0 rfl rfl 7 (by decide) (hts _ bw_fl_X0_33) (fun _ h9 => h9) rfl dX0_findReached_1 ?_
  refine lv_iconst (v := (-1)) hx hb dX0_findReached_4 (by decide) ?_
  have hPc := hP.sub (ws' := [(a4, .inl (c4, 300, .inl np))]) [4] rfl
  have hDc := hD.sub (ws' := [(a4, .inl (c4, 300, .inl np))]) [4] (by decide) rfl
  have hKc := hK.sub (tys' := [(c4, .int)]) [3] rfl
  have hFc := va_free (wc := [(a4, .inl (c4, 300, .inl np))]) hD hS hA [4] rfl
  refine va_callv (va_runS (As := [.ref a4, .int (-1)]) (rest := []) ⟨hx, hb, hml, hown, hts⟩ (c_J7_fill l dC dI a4 c4 300 (by decide) np _ (-1)) (va_cwS 2 hts gw_X0_36 rfl rfl rfl ⟨by decide, by decide, by decide +kernel⟩ ⟨Nat.le_of_ble_eq_true rfl, Nat.le_of_ble_eq_true rfl⟩) ⟨hw_blind, hw_pay hPc hKc hDc⟩ rfl rfl hl.1 rfl (lv_room (Nat.le_of_ble_eq_true rfl)) dX0_findReached_5 ⟨by decide, by decide⟩) hS (fun q _ h => hFc q h) hFc (fun u t H1 locs ht hvm hw hB hz1 hk1 hS => ?_)
  obtain ⟨hP1, hK1, hD1⟩ := hB
  rw [ht] at hP1
  obtain ⟨hP, hD⟩ := va_join (wr := [(h0, .inr (0, [.ref a1, .ref a2, .int tk, .int ob, .int co, .ref a3, .int rc, .ref a4])), (a1, .inl (c1, 300, .inr (.inl ce))), (a2, .inl (c2, 16, .inl rg)), (a3, .inl (c3, 300, .inl re))]) (w1 := [(a4, .inl (c4, 300, .inl u))]) hP hD [4] [0, 1, 2, 3] rfl rfl (by decide) (by decide) hk1 hFc hP1 hD1
  clear hk1 hFc hP1 hD1 hPc hDc hz1
  generalize H1 = H at hP hS ⊢
  have hP : va_P (dC, dI) vwCl [(h0, .inr (0, [.ref a1, .ref a2, .int tk, .int ob, .int co, .ref a3, .int rc, .ref a4])), (a1, .inl (c1, 300, .inr (.inl ce))), (a2, .inl (c2, 16, .inl rg)), (a3, .inl (c3, 300, .inl re)), (a4, .inl (c4, 300, .inl u))] H := hP
  have hD : va_D A [(h0, .inr (0, [.ref a1, .ref a2, .int tk, .int ob, .int co, .ref a3, .int rc, .ref a4])), (a1, .inl (c1, 300, .inr (.inl ce))), (a2, .inl (c2, 16, .inl rg)), (a3, .inl (c3, 300, .inl re)), (a4, .inl (c4, 300, .inl u))] := hD
  refine lv_aload_n hx hb dX0_findReached_8 rfl (lv_at hl 0 rfl) ?_
  refine lv_iconst (v := 0) hx hb dX0_findReached_9 (by decide) ?_
  refine hw_topi (y := nI 0) (nI_0.symm) ?_
  refine va_put (D := (dC, dI)) (ci := 0) (v := .int (nI 0)) (ty := .int) (C := RX0) (T := TX0) (N := 8) hx hb hts inX0 tyX0 tyX0_ok nmX0 hown hK hP hD hS 0 rfl rfl 6 (by decide) (hts _ bw_fl_X0_30) (fun _ h9 => h9) rfl (by decide +kernel) rfl rfl (Nat.le_of_ble_eq_true rfl) dX0_findReached_10 (fun H locs hP hD hS => ?_)
  have hP : va_P (dC, dI) vwCl [(h0, .inr (0, [.ref a1, .ref a2, .int tk, .int ob, .int co, .ref a3, .int (nI 0), .ref a4])), (a1, .inl (c1, 300, .inr (.inl ce))), (a2, .inl (c2, 16, .inl rg)), (a3, .inl (c3, 300, .inl re)), (a4, .inl (c4, 300, .inl u))] H := hP
  have hD : va_D A [(h0, .inr (0, [.ref a1, .ref a2, .int tk, .int ob, .int co, .ref a3, .int (nI 0), .ref a4])), (a1, .inl (c1, 300, .inr (.inl ce))), (a2, .inl (c2, 16, .inl rg)), (a3, .inl (c3, 300, .inl re)), (a4, .inl (c4, 300, .inl u))] := hD
  refine lv_iconst (v := 0) hx hb dX0_findReached_13 (by decide) ?_
  refine hw_topi (y := nI 0) (nI_0.symm) ?_
  refine lv_istore_n hx hb dX0_findReached_14 rfl hl (by decide) rfl (fun ls hl => ?_)
  have hl : lv_has ls 2 [(1, .int (nI 0)), (0, .ref h0)] := hl
  have loop : ∀ (n9 : Nat) (k : Nat) (re : Nat → Int32) (rc : Int32) (np : Nat → Int32) (H : Heap) (locs : List Loc) (ls : Array Slot), 16 - k < n9 → (k ≤ 16 ∧ hp_I M (hp_nf (hp_r M) k []) re rc np) → va_P (dC, dI) vwCl [(h0, .inr (0, [.ref a1, .ref a2, .int tk, .int ob, .int co, .ref a3, .int rc, .ref a4])), (a1, .inl (c1, 300, .inr (.inl ce))), (a2, .inl (c2, 16, .inl rg)), (a3, .inl (c3, 300, .inl re)), (a4, .inl (c4, 300, .inl np))] H → va_D A [(h0, .inr (0, [.ref a1, .ref a2, .int tk, .int ob, .int co, .ref a3, .int rc, .ref a4])), (a1, .inl (c1, 300, .inr (.inl ce))), (a2, .inl (c2, 16, .inl rg)), (a3, .inl (c3, 300, .inl re)), (a4, .inl (c4, 300, .inl np))] → va_S A s.heap H locs → lv_has ls 2 [(1, .int (nI k)), (0, .ref h0)] → W p l e (headSpec wsX0_findReached ({ frames := 3, cells := 0, slots := 0, locals := 65 })).room s m args below meth c H locs 0 0 Q9 (F0 m 15 ls []) := by
    intro n9
    induction n9 with
    | zero => intro k re rc np H locs ls hm; exact absurd hm (Nat.not_lt_zero _)
    | succ n9 ih =>
      intro k re rc np H locs ls hm hI hP hD hS hl
      refine lv_iload_n hx hb dX0_findReached_15 rfl (lv_at hl 0 rfl) ?_
      refine lv_bipush (v := 16) hx hb dX0_findReached_16 (by decide) ?_
      refine lv_icmp_ge hx hb dX0_findReached_18 (tgt := 37) (by decide) (fun hc => ?_) (fun hc => ?_)
      · have hk : k = 16 := by
          have h1 := (nI_leI (a := 16) (by decide) (by omega)).mp hc
          omega
        subst hk
        refine lv_iconst (v := 0) hx hb dX0_findReached_37 (by decide) ?_
        refine hw_topi (y := nI 0) (nI_0.symm) ?_
        refine lv_istore_n hx hb dX0_findReached_38 rfl hl (by decide) rfl (fun ls hl => ?_)
        have hl : lv_has ls 2 [(1, .int (nI 0)), (0, .ref h0)] := hl
        have loop2 : ∀ (n9 : Nat) (k : Nat) (R : List Nat) (re : Nat → Int32) (rc : Int32) (np : Nat → Int32) (H : Heap) (locs : List Loc) (ls : Array Slot), 300 - k < n9 → (k ≤ 300 ∧ hp_I M R re rc np ∧ hp_J M R k) → va_P (dC, dI) vwCl [(h0, .inr (0, [.ref a1, .ref a2, .int tk, .int ob, .int co, .ref a3, .int rc, .ref a4])), (a1, .inl (c1, 300, .inr (.inl ce))), (a2, .inl (c2, 16, .inl rg)), (a3, .inl (c3, 300, .inl re)), (a4, .inl (c4, 300, .inl np))] H → va_D A [(h0, .inr (0, [.ref a1, .ref a2, .int tk, .int ob, .int co, .ref a3, .int rc, .ref a4])), (a1, .inl (c1, 300, .inr (.inl ce))), (a2, .inl (c2, 16, .inl rg)), (a3, .inl (c3, 300, .inl re)), (a4, .inl (c4, 300, .inl np))] → va_S A s.heap H locs → lv_has ls 2 [(1, .int (nI k)), (0, .ref h0)] → W p l e (headSpec wsX0_findReached ({ frames := 3, cells := 0, slots := 0, locals := 65 })).room s m args below meth c H locs 0 0 Q9 (F0 m 39 ls []) := by
          intro n9
          induction n9 with
          | zero => intro k R re rc np H locs ls hm; exact absurd hm (Nat.not_lt_zero _)
          | succ n9 ih2 =>
            intro k R re rc np H locs ls hm hI hP hD hS hl
            refine lv_iload_n hx hb dX0_findReached_39 rfl (lv_at hl 0 rfl) ?_
            refine lv_sipush (v := 300) hx hb dX0_findReached_40 (by decide) ?_
            refine lv_icmp_ge hx hb dX0_findReached_43 (tgt := 84) (by decide) (fun hc => ?_) (fun hc => ?_)
            · have hk : 300 ≤ k := (nI_leI (a := 300) (by decide) (by omega)).mp hc
              have hend := hp_J_end hI.2.2 (Nat.le_trans (hp_I_len hW hI.2.1) hk)
              subst hQ9
              exact W.vret hx hb hr (fun t ht hWm => ⟨⟨(re, rc, np), rfl, ⟨R, hI.2.1, hend⟩, by rw [ht]; exact hP, va_K.moved hWm.alike hK, hD⟩, hS.F ht⟩) hS.2.2 dX0_findReached_84
            · have hk : k < 300 := Nat.lt_of_not_le (fun h9 => hc ((nI_leI (a := 300) (by decide) (by omega)).mpr h9))
              refine lv_iload_n hx hb dX0_findReached_46 rfl (lv_at hl 0 rfl) ?_
              refine lv_aload_n hx hb dX0_findReached_47 rfl (lv_at hl 1 rfl) ?_
              refine va_get (D := (dC, dI)) (ci := 0) (v := .int rc) (C := RX0) (T := TX0) (N := 8) hx hb hts inX0 hown hK hP 0 rfl rfl 6 (by decide) (hts _ bw_fl_X0_30) (fun _ h9 => h9) rfl dX0_findReached_48 ?_
              refine lv_icmp_ge hx hb dX0_findReached_51 (tgt := 84) (by decide) (fun hc => ?_) (fun hc => ?_)
              · have hlen := hp_I_len hW hI.2.1
                rw [hI.2.1.1] at hc
                have hend := hp_J_end hI.2.2 ((nI_leI (by omega) (by omega)).mp hc)
                subst hQ9
                exact W.vret hx hb hr (fun t ht hWm => ⟨⟨(re, rc, np), rfl, ⟨R, hI.2.1, hend⟩, by rw [ht]; exact hP, va_K.moved hWm.alike hK, hD⟩, hS.F ht⟩) hS.2.2 dX0_findReached_84
              · have hlen := hp_I_len hW hI.2.1
                have hk2 : k < R.length := Nat.lt_of_not_le (fun h9 => hc (by rw [hI.2.1.1]; exact (nI_leI (by omega) (by omega)).mpr h9))
                obtain ⟨o, ho⟩ : ∃ o, R[k]? = some o := ⟨_, List.getElem?_eq_getElem hk2⟩
                have hoL := hI.2.1.2.2.1 o (List.mem_of_getElem? ho)
                have hre := hI.2.1.2.2.2.1 k o ho
                have hcell := hC.2.2.2.2 o hoL
                have hlt := hp_pl_lt hW hoL
                refine lv_aload_n hx hb dX0_findReached_54 rfl (lv_at hl 1 rfl) ?_
                refine lv_aload_n hx hb dX0_findReached_55 rfl (lv_at hl 1 rfl) ?_
                refine va_get (D := (dC, dI)) (ci := 0) (v := .ref a3) (C := RX0) (T := TX0) (N := 8) hx hb hts inX0 hown hK hP 0 rfl rfl 5 (by decide) (hts _ bw_fl_X0_27) (fun _ h9 => h9) rfl dX0_findReached_56 ?_
                refine lv_iload_n hx hb dX0_findReached_59 rfl (lv_at hl 0 rfl) ?_
                refine hw_iald (j := k) hx hb hK hP 3 2 rfl rfl (rfl) (hk) (by decide) dX0_findReached_60 ?_
                refine hw_topi (y := nI (hp_pl M o)) (hre) ?_
                refine W.callR (W.runV (As := [.int (nI (hp_pl M o))]) (rest := []) ⟨hx, hb, hml, hown, hts⟩ (c_X0_kindAt l dC dI h0 a1 a2 a3 a4 c1 c2 c3 c4 ce rg tk ob co re rc np _ (by omega)) (cwV 1 hts gw_X0_59 rfl rfl rfl ⟨rfl, by decide, by decide, by decide +kernel⟩ ⟨Nat.le_of_ble_eq_true rfl, Nat.le_of_ble_eq_true rfl⟩) ⟨hw_blind, va_recv (q0 := 0) (ci := 0) (q := (RX0, TX0, 8)) hK hP rfl rfl, hw_pay hP hK hD⟩ rfl rfl hl.1 rfl (lv_room (Nat.le_of_ble_eq_true rfl)) dX0_findReached_61 ⟨by decide, by decide⟩) ?_
                refine W.eq (g2 := F0 m 64 ls [.int ((ce (hp_pl M o)).toInt32 &&& 3)]) rfl ?_
                refine hw_topi (y := nI (hp_k M o)) (hp_rkind hW hoL hcell.1) ?_
                refine lv_iconst (v := 1) hx hb dX0_findReached_64 (by decide) ?_
                refine lv_icmp_ne hx hb dX0_findReached_65 (tgt := 78) (by decide) (fun hc => ?_) (fun hc => ?_)
                · have hk1 : hp_k M o ≠ 1 := fun h9 => hc (by rw [h9]; decide)
                  refine lv_iinc (k := 0) (v := nI (k + 1)) hx hb dX0_findReached_78 hl rfl (nI_1 k) (by decide) rfl (fun ls hl => ?_)
                  have hl : lv_has ls 2 [(1, .int (nI (k + 1))), (0, .ref h0)] := hl
                  refine lv_goto hx hb dX0_findReached_81 (tgt := 39) (by decide) ?_
                  exact ih2 (k + 1) R re rc np H locs ls (by omega) (⟨hk, hI.2.1, hp_J_other hI.2.2 ho hk1⟩) hP hD hS (lv_sub hl [0, 1] rfl)
                · have hk1 : hp_k M o = 1 := (hp_k1 hW hoL (n := 1) (by decide)).mp hc
                  refine lv_aload_n hx hb dX0_findReached_68 rfl (lv_at hl 1 rfl) ?_
                  refine lv_aload_n hx hb dX0_findReached_69 rfl (lv_at hl 1 rfl) ?_
                  refine va_get (D := (dC, dI)) (ci := 0) (v := .ref a3) (C := RX0) (T := TX0) (N := 8) hx hb hts inX0 hown hK hP 0 rfl rfl 5 (by decide) (hts _ bw_fl_X0_27) (fun _ h9 => h9) rfl dX0_findReached_70 ?_
                  refine lv_iload_n hx hb dX0_findReached_73 rfl (lv_at hl 0 rfl) ?_
                  refine hw_iald (j := k) hx hb hK hP 3 2 rfl rfl (rfl) (hk) (by decide) dX0_findReached_74 ?_
                  refine hw_topi (y := nI (hp_pl M o)) (hre) ?_
                  refine hw_callv (va_runV (As := [.int (nI (hp_pl M o))]) (rest := []) ⟨hx, hb, hml, hown, hts⟩ (c_X0_noteContents l dC dI h0 a1 a2 a3 a4 c1 c2 c3 c4 ce rg tk ob co re rc np _ M hW co9 hC R hI.2.1 o hoL hk1) (cwV 1 hts gw_X0_118 rfl rfl rfl ⟨rfl, by decide, by decide, by decide +kernel⟩ ⟨Nat.le_of_ble_eq_true rfl, Nat.le_of_ble_eq_true rfl⟩) ⟨hw_blind, va_recv (q0 := 0) (ci := 0) (q := (RX0, TX0, 8)) hK hP rfl rfl, hw_pay hP hK hD⟩ rfl rfl hl.1 rfl (lv_room (Nat.le_of_ble_eq_true rfl)) dX0_findReached_75 ⟨by decide, by decide⟩) hD hS hA (fun u9 H locs hw hP hD hS => ?_)
                  obtain ⟨re, rc, np⟩ := u9
                  have hP : va_P (dC, dI) vwCl [(h0, .inr (0, [.ref a1, .ref a2, .int tk, .int ob, .int co, .ref a3, .int rc, .ref a4])), (a1, .inl (c1, 300, .inr (.inl ce))), (a2, .inl (c2, 16, .inl rg)), (a3, .inl (c3, 300, .inl re)), (a4, .inl (c4, 300, .inl np))] H := hP
                  have hD : va_D A [(h0, .inr (0, [.ref a1, .ref a2, .int tk, .int ob, .int co, .ref a3, .int rc, .ref a4])), (a1, .inl (c1, 300, .inr (.inl ce))), (a2, .inl (c2, 16, .inl rg)), (a3, .inl (c3, 300, .inl re)), (a4, .inl (c4, 300, .inl np))] := hD
                  refine lv_iinc (k := 0) (v := nI (k + 1)) hx hb dX0_findReached_78 hl rfl (nI_1 k) (by decide) rfl (fun ls hl => ?_)
                  have hl : lv_has ls 2 [(1, .int (nI (k + 1))), (0, .ref h0)] := hl
                  refine lv_goto hx hb dX0_findReached_81 (tgt := 39) (by decide) ?_
                  exact ih2 (k + 1) (hp_nf (hp_l M o) (hp_z M o) R) re rc np H locs ls (by omega) (⟨hk, hw, hp_J_links hI.2.2 ho hk1⟩) hP hD hS (lv_sub hl [0, 1] rfl)
        exact loop2 _ 0 (hp_nf (hp_r M) 16 []) re rc np H locs ls (Nat.lt_succ_self _) (⟨Nat.zero_le _, hI.2, hp_J_0 M⟩) hP hD hS (lv_sub hl [0, 1] rfl)
      · have hk : k < 16 := Nat.lt_of_not_le (fun h9 => hc ((nI_leI (a := 16) (by decide) (by omega)).mpr h9))
        refine lv_aload_n hx hb dX0_findReached_21 rfl (lv_at hl 1 rfl) ?_
        refine lv_aload_n hx hb dX0_findReached_22 rfl (lv_at hl 1 rfl) ?_
        refine va_get (D := (dC, dI)) (ci := 0) (v := .ref a2) (C := RX0) (T := TX0) (N := 8) hx hb hts inX0 hown hK hP 0 rfl rfl 1 (by decide) (hts _ bw_fl_X0_13) (fun _ h9 => h9) rfl dX0_findReached_23 ?_
        refine lv_iload_n hx hb dX0_findReached_26 rfl (lv_at hl 0 rfl) ?_
        refine hw_iald (j := k) hx hb hK hP 2 1 rfl rfl (rfl) (hk) (by decide) dX0_findReached_27 ?_
        refine hw_topi (y := hp_e M (hp_r M k)) (hC.2.2.2.1 k hk) ?_
        refine hw_callv (va_runV (As := [.int (hp_e M (hp_r M k))]) (rest := []) ⟨hx, hb, hml, hown, hts⟩ (c_X0_noteReached l dC dI h0 a1 a2 a3 a4 c1 c2 c3 c4 ce rg tk ob co re rc np _ M hW (hp_nf (hp_r M) k []) hI.2 (hp_r M k) (hW.2.2.2.1 k hk)) (cwV 1 hts gw_X0_115 rfl rfl rfl ⟨rfl, by decide, by decide, by decide +kernel⟩ ⟨Nat.le_of_ble_eq_true rfl, Nat.le_of_ble_eq_true rfl⟩) ⟨hw_blind, va_recv (q0 := 0) (ci := 0) (q := (RX0, TX0, 8)) hK hP rfl rfl, hw_pay hP hK hD⟩ rfl rfl hl.1 rfl (lv_room (Nat.le_of_ble_eq_true rfl)) dX0_findReached_28 ⟨by decide, by decide⟩) hD hS hA (fun u9 H locs hw hP hD hS => ?_)
        obtain ⟨re, rc, np⟩ := u9
        have hP : va_P (dC, dI) vwCl [(h0, .inr (0, [.ref a1, .ref a2, .int tk, .int ob, .int co, .ref a3, .int rc, .ref a4])), (a1, .inl (c1, 300, .inr (.inl ce))), (a2, .inl (c2, 16, .inl rg)), (a3, .inl (c3, 300, .inl re)), (a4, .inl (c4, 300, .inl np))] H := hP
        have hD : va_D A [(h0, .inr (0, [.ref a1, .ref a2, .int tk, .int ob, .int co, .ref a3, .int rc, .ref a4])), (a1, .inl (c1, 300, .inr (.inl ce))), (a2, .inl (c2, 16, .inl rg)), (a3, .inl (c3, 300, .inl re)), (a4, .inl (c4, 300, .inl np))] := hD
        refine lv_iinc (k := 0) (v := nI (k + 1)) hx hb dX0_findReached_31 hl rfl (nI_1 k) (by decide) rfl (fun ls hl => ?_)
        have hl : lv_has ls 2 [(1, .int (nI (k + 1))), (0, .ref h0)] := hl
        refine lv_goto hx hb dX0_findReached_34 (tgt := 15) (by decide) ?_
        exact ih (k + 1) re rc np H locs ls (by omega) (⟨hk, hw⟩) hP hD hS (lv_sub hl [0, 1] rfl)
  exact loop _ 0 re (nI 0) u H locs ls (Nat.lt_succ_self _) (⟨Nat.zero_le _, hp_I_0 hw hW⟩) hP hD hS (lv_sub hl [0, 1] rfl)
end
section
theorem hp_e_ix {M : hp_S} (hW : hp_W M) {o : Nat} (ho : o = 0 ∨ o ∈ hp_L M) : hp_e M o = -1 ∨ ∃ j : Nat, j < 300 ∧ hp_e M o = nI j := by
  by_cases h0 : o = 0
  · exact Or.inl (by rw [h0]; exact hp_e0 M)
  · exact Or.inr ⟨hp_pl M o, by have := hp_pl_lt hW (ho.resolve_left h0); omega, hp_en h0⟩
theorem hp_L_len {M : hp_S} (hW : hp_W M) : (hp_L M).length ≤ 300 := Nat.le_trans (hp_len _ _) hW.2.2.2.2.2
theorem hp_take {R : List Nat} {k o : Nat} (h : R[k]? = some o) : R.take (k + 1) = R.take k ++ [o] := by
  rw [List.take_succ, h]; rfl
theorem hp_take_not {R : List Nat} {k o : Nat} (hR : R.Nodup) (h : R[k]? = some o) : o ∉ R.take k := by
  have h1 : (R.take (k + 1)).Nodup := List.Pairwise.sublist (List.take_sublist _ _) hR
  rw [hp_take h, List.nodup_append] at h1
  exact fun e => h1.2.2 o e o (by simp) rfl
theorem hp_take_all {R : List Nat} {k : Nat} (h : R.length ≤ k) : R.take k = R := List.take_of_length_le h
theorem hp_X_0 {M : hp_S} {ce : Nat → Int64} {rg : Nat → Int32} {tk ob co : Int32} (h : hp_C M ce rg tk ob co) : hp_X M [] ce := fun o ho => ⟨(h.2.2.2.2 o ho).1, fun i hi => by rw [(h.2.2.2.2 o ho).2 i hi]; simp⟩
theorem hp_nb {M : hp_S} (hW : hp_W M) {np : Nat → Int32} {o : Nat} (ho : o ∈ hp_L M) {x : Nat} (hx : x < 2 ^ 31) (h : np (hp_pl M o) = if hp_b M o = true then nI x else -1) : np (hp_pl M o) = -1 ↔ ¬ hp_b M o = true := by
  rw [h]
  by_cases hb : hp_b M o = true
  · rw [if_pos hb]
    exact ⟨fun e => absurd e (hp_neg1 hx), fun e => absurd hb e⟩
  · rw [if_neg hb]
    exact ⟨fun _ => hb, fun _ => rfl⟩
theorem hp_new_lt {M : hp_S} (hW : hp_W M) {o : Nat} (h : hp_b M o = true) : hp_pl (hp_col M) o + (1 + hp_z M o) ≤ 300 := hp_pl_lt (M := hp_col M) (hp_col_W hW) ((hp_in2 hW).mpr h)
theorem hp_new_lt' {M : hp_S} (hW : hp_W M) (o : Nat) : hp_p (hp_z M) (hp_L2 M) o < 2 ^ 31 := by
  by_cases h : hp_b M o = true
  · have := hp_new_lt hW h
    have e : hp_pl (hp_col M) o = hp_p (hp_z M) (hp_L2 M) o := rfl
    omega
  · have h2 : ∀ (l : List Nat) (x : Nat), hp_p (hp_z M) l x ≤ hp_t (hp_z M) l := by
      intro l
      induction l with
      | nil => intro x; exact Nat.le_refl _
      | cons a l ih => intro x; have := ih x; simp only [hp_p, hp_t]; split <;> omega
    have h3 := h2 (hp_L2 M) o
    have h4 := hp_t_filter (hp_z M) (hp_b M) (hp_L M)
    have h5 := hW.2.2.2.2.2
    have h6 : hp_t (hp_z M) (hp_L2 M) ≤ hp_t (hp_z M) (hp_L M) := h4
    have h7 : hp_tk M = hp_t (hp_z M) (hp_L M) := rfl
    omega
end
section
set_option maxHeartbeats 4000000 in
set_option maxRecDepth 100000 in
/-- planNewPlaces() -/
theorem c_X0_planNewPlaces (l : Launch) (dC : Nat → ClassId) (dI : Nat → Nat → Nat) (h0 a1 a2 a3 a4 : Nat) (c1 c2 c3 c4 : ClassId) (ce : Nat → Int64) (rg : Nat → Int32) (tk ob co : Int32) (re : Nat → Int32) (rc : Int32) (np : Nat → Int32) (sz : Nat) (M : hp_S) (hW : hp_W M) (hob : ob = nI (hp_L M).length) (hce : ∀ o ∈ hp_L M, ce (hp_pl M o) = hp_h M o) (hN : hp_N M [] (hp_L M) np) : Met l yX0_planNewPlaces wsX0_planNewPlaces ({ frames := 2, cells := 0, slots := 0, locals := 42 }) (va_Pc [.ref h0] (hw_pre (dC, dI) vwCl [(c1, .long), (c2, .int), (c3, .int), (c4, .int)] [(h0, .inr (0, [.ref a1, .ref a2, .int tk, .int ob, .int co, .ref a3, .int rc, .ref a4])), (a1, .inl (c1, 300, .inr (.inl ce))), (a2, .inl (c2, 16, .inl rg)), (a3, .inl (c3, 300, .inl re)), (a4, .inl (c4, 300, .inl np))] sz)) (va_Qi (fun (r : Int32) (u : Nat → Int32) => r = nI (hp_t (hp_z M) (hp_L2 M)) ∧ hp_N M (hp_L M) [] u) (fun u t => hw_B (dC, dI) vwCl [(c1, .long), (c2, .int), (c3, .int), (c4, .int)] (va_A [(h0, .inr (0, [.ref a1, .ref a2, .int tk, .int ob, .int co, .ref a3, .int rc, .ref a4])), (a1, .inl (c1, 300, .inr (.inl ce))), (a2, .inl (c2, 16, .inl rg)), (a3, .inl (c3, 300, .inl re)), (a4, .inl (c4, 300, .inl np))] sz) ((fun u : Nat → Int32 => [(h0, .inr (0, [.ref a1, .ref a2, .int tk, .int ob, .int co, .ref a3, .int rc, .ref a4])), (a1, .inl (c1, 300, .inr (.inl ce))), (a2, .inl (c2, 16, .inl rg)), (a3, .inl (c3, 300, .inl re)), (a4, .inl (c4, 300, .inl u))]) u) t) (va_A [(h0, .inr (0, [.ref a1, .ref a2, .int tk, .int ob, .int co, .ref a3, .int rc, .ref a4])), (a1, .inl (c1, 300, .inr (.inl ce))), (a2, .inl (c2, 16, .inl rg)), (a3, .inl (c3, 300, .inl re)), (a4, .inl (c4, 300, .inl np))] sz)) 0 0 (va_A [(h0, .inr (0, [.ref a1, .ref a2, .int tk, .int ob, .int co, .ref a3, .int rc, .ref a4])), (a1, .inl (c1, 300, .inr (.inl ce))), (a2, .inl (c2, 16, .inl rg)), (a3, .inl (c3, 300, .inl re)), (a4, .inl (c4, 300, .inl np))] sz) := by
  refine Met.ofW (cc := cX0_planNewPlaces) (maxL := 5) (ret := some .int) (by decide) rfl ?_
  intro p e s m args below meth c s₁ B hml hv
  obtain ⟨hargs, hsz, hP, hK, hD0⟩ := hv
  have hx := B.exec
  have hb := B.bytes
  have hr := B.returns
  have hts : ∀ w ∈ wb, w.before _ s = true := fun w h => atoms_spec (ws := wsX0_planNewPlaces) B.pre w (List.mem_cons_of_mem _ h)
  have hown : s.vm.findClass RX0 = some m.cls := findClass_of_methodNamed B.named
  have hlocks := B.notSynchronized
  subst hsz
  have hD := hD0.self (sz := s.heap.size)
  generalize hAe : va_A [(h0, .inr (0, [.ref a1, .ref a2, .int tk, .int ob, .int co, .ref a3, .int rc, .ref a4])), (a1, .inl (c1, 300, .inr (.inl ce))), (a2, .inl (c2, 16, .inl rg)), (a3, .inl (c3, 300, .inl re)), (a4, .inl (c4, 300, .inl np))] s.heap.size = A at hD ⊢
  have hA : ∀ q : Nat, s.heap.size ≤ q → A q := fun q h => by rw [← hAe]; exact Or.inr h
  have hS : va_S A s.heap s.heap [] := va_S.rf
  generalize hQ9 : MQ below (va_Qi (fun (r : Int32) (u : Nat → Int32) => r = nI (hp_t (hp_z M) (hp_L2 M)) ∧ hp_N M (hp_L M) [] u) (fun u t => hw_B (dC, dI) vwCl [(c1, .long), (c2, .int), (c3, .int), (c4, .int)] A ((fun u : Nat → Int32 => [(h0, .inr (0, [.ref a1, .ref a2, .int tk, .int ob, .int co, .ref a3, .int rc, .ref a4])), (a1, .inl (c1, 300, .inr (.inl ce))), (a2, .inl (c2, 16, .inl rg)), (a3, .inl (c3, 300, .inl re)), (a4, .inl (c4, 300, .inl u))]) u) t) A) args s 0 0 A = Q9
  have hl := lv_entry ([.ref h0]) (n := 5) (Nat.le_of_ble_eq_true rfl)
  rw [show entryFrame m args 5 = _ from (congrArg (fun z => entryFrame m z 5) hargs).trans (lg_entry_eq m [.ref h0] 5)]
  generalize (lg_sl ([.ref h0]) ++ List.replicate (5 - (lg_sl ([.ref h0])).length) Slot.unset).toArray = ls at hl ⊢
  have hl : lv_has ls 5 [(0, .ref h0)] := hl
  obtain ⟨H, hH⟩ : ∃ H, H = s.heap := ⟨_, rfl⟩
  rw [← hH] at hP
  have hS : va_S A s.heap H [] := by rw [hH]; exact hS
  rw [← hH]
  generalize ([] : List Loc) = locs at hS ⊢
  refine lv_iconst (v := 0) hx hb dX0_planNewPlaces_0 (by decide) ?_
  refine hw_topi (y := nI (hp_t (hp_z M) [])) (nI_0.symm) ?_
  refine lv_istore_n hx hb dX0_planNewPlaces_1 rfl hl (by decide) rfl (fun ls hl => ?_)
  have hl : lv_has ls 5 [(1, .int (nI (hp_t (hp_z M) []))), (0, .ref h0)] := hl
  refine lv_iconst (v := 0) hx hb dX0_planNewPlaces_2 (by decide) ?_
  refine hw_topi (y := nI (hp_t (hp_z M) (([] : List Nat).filter (hp_b M)))) (nI_0.symm) ?_
  refine lv_istore_n hx hb dX0_planNewPlaces_3 rfl hl (by decide) rfl (fun ls hl => ?_)
  have hl : lv_has ls 5 [(2, .int (nI (hp_t (hp_z M) (([] : List Nat).filter (hp_b M))))), (1, .int (nI (hp_t (hp_z M) []))), (0, .ref h0)] := hl
  refine lv_iconst (v := 0) hx hb dX0_planNewPlaces_4 (by decide) ?_
  refine hw_topi (y := nI ([] : List Nat).length) (nI_0.symm) ?_
  refine lv_istore_n hx hb dX0_planNewPlaces_5 rfl hl (by decide) rfl (fun ls hl => ?_)
  have hl : lv_has ls 5 [(3, .int (nI ([] : List Nat).length)), (2, .int (nI (hp_t (hp_z M) (([] : List Nat).filter (hp_b M))))), (1, .int (nI (hp_t (hp_z M) []))), (0, .ref h0)] := hl
  have loop : ∀ (n9 : Nat) (pre : List Nat) (suf : List Nat) (np : Nat → Int32) (H : Heap) (locs : List Loc) (ls : Array Slot), suf.length < n9 → (hp_L M = pre ++ suf ∧ hp_N M pre suf np) → va_P (dC, dI) vwCl [(h0, .inr (0, [.ref a1, .ref a2, .int tk, .int ob, .int co, .ref a3, .int rc, .ref a4])), (a1, .inl (c1, 300, .inr (.inl ce))), (a2, .inl (c2, 16, .inl rg)), (a3, .inl (c3, 300, .inl re)), (a4, .inl (c4, 300, .inl np))] H → va_D A [(h0, .inr (0, [.ref a1, .ref a2, .int tk, .int ob, .int co, .ref a3, .int rc, .ref a4])), (a1, .inl (c1, 300, .inr (.inl ce))), (a2, .inl (c2, 16, .inl rg)), (a3, .inl (c3, 300, .inl re)), (a4, .inl (c4, 300, .inl np))] → va_S A s.heap H locs → lv_has ls 5 [(3, .int (nI pre.length)), (2, .int (nI (hp_t (hp_z M) (pre.filter (hp_b M))))), (1, .int (nI (hp_t (hp_z M) pre))), (0, .ref h0)] → W p l e (headSpec wsX0_planNewPlaces ({ frames := 2, cells := 0, slots := 0, locals := 42 })).room s m args below meth c H locs 0 0 Q9 (F0 m 6 ls []) := by
    intro n9
    induction n9 with
    | zero => intro pre suf np H locs ls hm; exact absurd hm (Nat.not_lt_zero _)
    | succ n9 ih =>
      intro pre suf np H locs ls hm hI hP hD hS hl
      refine lv_iload_n hx hb dX0_planNewPlaces_6 rfl (lv_at hl 0 rfl) ?_
      refine lv_aload_n hx hb dX0_planNewPlaces_7 rfl (lv_at hl 3 rfl) ?_
      refine va_get (D := (dC, dI)) (ci := 0) (v := .int ob) (C := RX0) (T := TX0) (N := 8) hx hb hts inX0 hown hK hP 0 rfl rfl 3 (by decide) (hts _ bw_fl_X0_21) (fun _ h9 => h9) rfl dX0_planNewPlaces_8 ?_
      refine lv_icmp_ge hx hb dX0_planNewPlaces_11 (tgt := 54) (by decide) (fun hc => ?_) (fun hc => ?_)
      · have hlen := congrArg List.length hI.1
        rw [List.length_append] at hlen
        have hL3 := hp_L_len hW
        rw [hob] at hc
        have hs : suf = [] := List.length_eq_zero_iff.mp (by have h1 := (nI_leI (by omega) (by omega)).mp hc; omega)
        subst hs
        have hpre : hp_L M = pre := by rw [hI.1, List.append_nil]
        refine lv_iload_n hx hb dX0_planNewPlaces_54 rfl (lv_at hl 1 rfl) ?_
        subst hQ9
        exact W.iret (v := nI (hp_t (hp_z M) (pre.filter (hp_b M)))) hx hb hr (fun t ht hWm => ⟨⟨nI (hp_t (hp_z M) (pre.filter (hp_b M))), np, rfl, ⟨by unfold hp_L2; rw [hpre], by rw [hpre]; exact hI.2⟩, by rw [ht]; exact hP, va_K.moved hWm.alike hK, hD⟩, hS.F ht⟩) hS.2.2 dX0_planNewPlaces_55
      · have hlen := congrArg List.length hI.1
        rw [List.length_append] at hlen
        have hL3 := hp_L_len hW
        rw [hob] at hc
        have hs : 0 < suf.length := Nat.pos_of_ne_zero (fun h9 => hc ((nI_leI (by omega) (by omega)).mpr (by omega)))
        obtain ⟨o, suf2, rfl⟩ : ∃ o suf2, suf = o :: suf2 := by
          cases suf with
          | nil => exact absurd hs (Nat.lt_irrefl _)
          | cons o suf2 => exact ⟨o, suf2, rfl⟩
        have hpo := hp_old_at hW hI.1
        have ho : o ∈ hp_L M := by rw [hI.1]; simp
        have hlt := hp_pl_lt hW ho
        have hnb := hp_nb hW ho (by omega) (hI.2.2 o List.mem_cons_self)
        rw [hpo] at hnb
        refine lv_aload_n hx hb dX0_planNewPlaces_14 rfl (lv_at hl 3 rfl) ?_
        refine lv_iload_n hx hb dX0_planNewPlaces_15 rfl (lv_at hl 2 rfl) ?_
        refine W.callR (W.runV (As := [.int (nI (hp_t (hp_z M) pre))]) (rest := []) ⟨hx, hb, hml, hown, hts⟩ (c_X0_sizeAt l dC dI h0 a1 a2 a3 a4 c1 c2 c3 c4 ce rg tk ob co re rc np _ (by omega)) (cwV 1 hts gw_X0_121 rfl rfl rfl ⟨rfl, by decide, by decide, by decide +kernel⟩ ⟨Nat.le_of_ble_eq_true rfl, Nat.le_of_ble_eq_true rfl⟩) ⟨hw_blind, va_recv (q0 := 0) (ci := 0) (q := (RX0, TX0, 8)) hK hP rfl rfl, hw_pay hP hK hD⟩ rfl rfl hl.1 rfl (lv_room (Nat.le_of_ble_eq_true rfl)) dX0_planNewPlaces_16 ⟨by decide, by decide⟩) ?_
        refine W.eq (g2 := F0 m 19 ls [.int (1 + (ce (hp_t (hp_z M) pre)).toInt32 >>> ((2 : Int32) &&& 31))]) rfl ?_
        refine hw_topi (y := nI (1 + hp_z M o)) (by rw [← hpo]; exact hp_rsize hW ho (hce o ho)) ?_
        refine lv_istore hx hb dX0_planNewPlaces_19 hl (by decide) rfl (fun ls hl => ?_)
        have hl : lv_has ls 5 [(4, .int (nI (1 + hp_z M o))), (3, .int (nI pre.length)), (2, .int (nI (hp_t (hp_z M) (pre.filter (hp_b M))))), (1, .int (nI (hp_t (hp_z M) pre))), (0, .ref h0)] := hl
        refine lv_aload_n hx hb dX0_planNewPlaces_21 rfl (lv_at hl 4 rfl) ?_
        refine va_get (D := (dC, dI)) (ci := 0) (v := .ref a4) (C := RX0) (T := TX0) (N := 8) hx hb hts inX0 hown hK hP 0 rfl rfl 7 (by decide) (hts _ bw_fl_X0_33) (fun _ h9 => h9) rfl dX0_planNewPlaces_22 ?_
        refine lv_iload_n hx hb dX0_planNewPlaces_25 rfl (lv_at hl 3 rfl) ?_
        refine hw_iald (j := hp_t (hp_z M) pre) hx hb hK hP 4 3 rfl rfl (rfl) (by omega) (by decide) dX0_planNewPlaces_26 ?_
        refine lv_iconst (v := (-1)) hx hb dX0_planNewPlaces_27 (by decide) ?_
        refine lv_icmp_eq hx hb dX0_planNewPlaces_28 (tgt := 43) (by decide) (fun hc => ?_) (fun hc => ?_)
        · have hbo := hnb.mp hc
          rw [← hp_filter_f M pre hbo] at hl
          refine lv_iload_n hx hb dX0_planNewPlaces_43 rfl (lv_at hl 3 rfl) ?_
          refine lv_iload hx hb dX0_planNewPlaces_44 (lv_at hl 0 rfl) ?_
          refine lv_iadd hx hb dX0_planNewPlaces_46 ?_
          refine hw_topi (y := nI (hp_t (hp_z M) (pre ++ [o]))) (by rw [hp_t_snoc]; exact nI_add _ _) ?_
          refine lv_istore_n hx hb dX0_planNewPlaces_47 rfl hl (by decide) rfl (fun ls hl => ?_)
          have hl : lv_has ls 5 [(1, .int (nI (hp_t (hp_z M) (pre ++ [o])))), (4, .int (nI (1 + hp_z M o))), (3, .int (nI pre.length)), (2, .int (nI (hp_t (hp_z M) ((pre ++ [o]).filter (hp_b M))))), (0, .ref h0)] := hl
          refine lv_iinc (k := 2) (v := nI (pre ++ [o]).length) hx hb dX0_planNewPlaces_48 hl rfl (by rw [List.length_append]; exact nI_1 _) (by decide) rfl (fun ls hl => ?_)
          have hl : lv_has ls 5 [(3, .int (nI (pre ++ [o]).length)), (1, .int (nI (hp_t (hp_z M) (pre ++ [o])))), (4, .int (nI (1 + hp_z M o))), (2, .int (nI (hp_t (hp_z M) ((pre ++ [o]).filter (hp_b M))))), (0, .ref h0)] := hl
          refine lv_goto hx hb dX0_planNewPlaces_51 (tgt := 6) (by decide) ?_
          exact ih (pre ++ [o]) suf2 np H locs ls (by simp only [List.length_cons] at hm; omega) (⟨by rw [hI.1, List.append_assoc]; rfl, hp_N_f hI.2 hbo⟩) hP hD hS (lv_sub hl [0, 3, 1, 4] rfl)
        · have hbo : hp_b M o = true := Classical.byContradiction fun h9 => hc (hnb.mpr h9)
          refine lv_aload_n hx hb dX0_planNewPlaces_31 rfl (lv_at hl 4 rfl) ?_
          refine va_get (D := (dC, dI)) (ci := 0) (v := .ref a4) (C := RX0) (T := TX0) (N := 8) hx hb hts inX0 hown hK hP 0 rfl rfl 7 (by decide) (hts _ bw_fl_X0_33) (fun _ h9 => h9) rfl dX0_planNewPlaces_32 ?_
          refine lv_iload_n hx hb dX0_planNewPlaces_35 rfl (lv_at hl 3 rfl) ?_
          refine lv_iload_n hx hb dX0_planNewPlaces_36 rfl (lv_at hl 2 rfl) ?_
          refine hw_iast (j := hp_t (hp_z M) pre) hx hb hK hP hD hS 4 3 rfl rfl (rfl) (by omega) (by decide) dX0_planNewPlaces_37 (fun H locs hP hD hS => ?_)
          have hP : va_P (dC, dI) vwCl [(h0, .inr (0, [.ref a1, .ref a2, .int tk, .int ob, .int co, .ref a3, .int rc, .ref a4])), (a1, .inl (c1, 300, .inr (.inl ce))), (a2, .inl (c2, 16, .inl rg)), (a3, .inl (c3, 300, .inl re)), (a4, .inl (c4, 300, .inl (upd np (hp_t (hp_z M) pre) (nI (hp_t (hp_z M) (pre.filter (hp_b M)))))))] H := hP
          have hD : va_D A [(h0, .inr (0, [.ref a1, .ref a2, .int tk, .int ob, .int co, .ref a3, .int rc, .ref a4])), (a1, .inl (c1, 300, .inr (.inl ce))), (a2, .inl (c2, 16, .inl rg)), (a3, .inl (c3, 300, .inl re)), (a4, .inl (c4, 300, .inl (upd np (hp_t (hp_z M) pre) (nI (hp_t (hp_z M) (pre.filter (hp_b M)))))))] := hD
          refine lv_iload_n hx hb dX0_planNewPlaces_38 rfl (lv_at hl 2 rfl) ?_
          refine lv_iload hx hb dX0_planNewPlaces_39 (lv_at hl 0 rfl) ?_
          refine lv_iadd hx hb dX0_planNewPlaces_41 ?_
          refine hw_topi (y := nI (hp_t (hp_z M) ((pre ++ [o]).filter (hp_b M)))) (by rw [hp_filter_t M pre hbo, hp_t_snoc]; exact nI_add _ _) ?_
          refine lv_istore_n hx hb dX0_planNewPlaces_42 rfl hl (by decide) rfl (fun ls hl => ?_)
          have hl : lv_has ls 5 [(2, .int (nI (hp_t (hp_z M) ((pre ++ [o]).filter (hp_b M))))), (4, .int (nI (1 + hp_z M o))), (3, .int (nI pre.length)), (1, .int (nI (hp_t (hp_z M) pre))), (0, .ref h0)] := hl
          refine lv_iload_n hx hb dX0_planNewPlaces_43 rfl (lv_at hl 3 rfl) ?_
          refine lv_iload hx hb dX0_planNewPlaces_44 (lv_at hl 1 rfl) ?_
          refine lv_iadd hx hb dX0_planNewPlaces_46 ?_
          refine hw_topi (y := nI (hp_t (hp_z M) (pre ++ [o]))) (by rw [hp_t_snoc]; exact nI_add _ _) ?_
          refine lv_istore_n hx hb dX0_planNewPlaces_47 rfl hl (by decide) rfl (fun ls hl => ?_)
          have hl : lv_has ls 5 [(1, .int (nI (hp_t (hp_z M) (pre ++ [o])))), (2, .int (nI (hp_t (hp_z M) ((pre ++ [o]).filter (hp_b M))))), (4, .int (nI (1 + hp_z M o))), (3, .int (nI pre.length)), (0, .ref h0)] := hl
          refine lv_iinc (k := 3) (v := nI (pre ++ [o]).length) hx hb dX0_planNewPlaces_48 hl rfl (by rw [List.length_append]; exact nI_1 _) (by decide) rfl (fun ls hl => ?_)
          have hl : lv_has ls 5 [(3, .int (nI (pre ++ [o]).length)), (1, .int (nI (hp_t (hp_z M) (pre ++ [o])))), (2, .int (nI (hp_t (hp_z M) ((pre ++ [o]).filter (hp_b M))))), (4, .int (nI (1 + hp_z M o))), (0, .ref h0)] := hl
          refine lv_goto hx hb dX0_planNewPlaces_51 (tgt := 6) (by decide) ?_
          exact ih (pre ++ [o]) suf2 (upd np (hp_t (hp_z M) pre) (nI (hp_t (hp_z M) (pre.filter (hp_b M))))) H locs ls (by simp only [List.length_cons] at hm; omega) (⟨by rw [hI.1, List.append_assoc]; rfl, by have h9 := hp_N_t hW hI.1 hI.2 hbo; rw [hpo] at h9; exact h9⟩) hP hD hS (lv_sub hl [0, 2, 1, 4] rfl)
  exact loop _ ([]) (hp_L M) np H locs ls (Nat.lt_succ_self _) (⟨rfl, hN⟩) hP hD hS (lv_sub hl [0, 1, 2, 3] rfl)

set_option maxHeartbeats 4000000 in
set_option maxRecDepth 100000 in
/-- redirectRegisters() -/
theorem c_X0_redirectRegisters (l : Launch) (dC : Nat → ClassId) (dI : Nat → Nat → Nat) (h0 a1 a2 a3 a4 : Nat) (c1 c2 c3 c4 : ClassId) (ce : Nat → Int64) (rg : Nat → Int32) (tk ob co : Int32) (re : Nat → Int32) (rc : Int32) (np : Nat → Int32) (sz : Nat) (M : hp_S) (hW : hp_W M) (hrg : ∀ r, r < 16 → rg r = hp_e M (hp_r M r)) (hN : hp_N M (hp_L M) [] np) : Met l yX0_redirectRegisters wsX0_redirectRegisters ({ frames := 1, cells := 0, slots := 0, locals := 21 }) (va_Pc [.ref h0] (hw_pre (dC, dI) vwCl [(c1, .long), (c2, .int), (c3, .int), (c4, .int)] [(h0, .inr (0, [.ref a1, .ref a2, .int tk, .int ob, .int co, .ref a3, .int rc, .ref a4])), (a1, .inl (c1, 300, .inr (.inl ce))), (a2, .inl (c2, 16, .inl rg)), (a3, .inl (c3, 300, .inl re)), (a4, .inl (c4, 300, .inl np))] sz)) (va_Qv (fun u : Nat → Int32 => ∀ r, r < 16 → u r = hp_e (hp_col M) (hp_r (hp_col M) r)) (fun u t => hw_B (dC, dI) vwCl [(c1, .long), (c2, .int), (c3, .int), (c4, .int)] (va_A [(h0, .inr (0, [.ref a1, .ref a2, .int tk, .int ob, .int co, .ref a3, .int rc, .ref a4])), (a1, .inl (c1, 300, .inr (.inl ce))), (a2, .inl (c2, 16, .inl rg)), (a3, .inl (c3, 300, .inl re)), (a4, .inl (c4, 300, .inl np))] sz) ((fun u : Nat → Int32 => [(h0, .inr (0, [.ref a1, .ref a2, .int tk, .int ob, .int co, .ref a3, .int rc, .ref a4])), (a1, .inl (c1, 300, .inr (.inl ce))), (a2, .inl (c2, 16, .inl u)), (a3, .inl (c3, 300, .inl re)), (a4, .inl (c4, 300, .inl np))]) u) t) (va_A [(h0, .inr (0, [.ref a1, .ref a2, .int tk, .int ob, .int co, .ref a3, .int rc, .ref a4])), (a1, .inl (c1, 300, .inr (.inl ce))), (a2, .inl (c2, 16, .inl rg)), (a3, .inl (c3, 300, .inl re)), (a4, .inl (c4, 300, .inl np))] sz)) 0 0 (va_A [(h0, .inr (0, [.ref a1, .ref a2, .int tk, .int ob, .int co, .ref a3, .int rc, .ref a4])), (a1, .inl (c1, 300, .inr (.inl ce))), (a2, .inl (c2, 16, .inl rg)), (a3, .inl (c3, 300, .inl re)), (a4, .inl (c4, 300, .inl np))] sz) := by
  refine Met.ofW (cc := cX0_redirectRegisters) (maxL := 2) (ret := none) (by decide) rfl ?_
  intro p e s m args below meth c s₁ B hml hv
  obtain ⟨hargs, hsz, hP, hK, hD0⟩ := hv
  have hx := B.exec
  have hb := B.bytes
  have hr := B.returns
  have hts : ∀ w ∈ wb, w.before _ s = true := fun w h => atoms_spec (ws := wsX0_redirectRegisters) B.pre w (List.mem_cons_of_mem _ h)
  have hown : s.vm.findClass RX0 = some m.cls := findClass_of_methodNamed B.named
  have hlocks := B.notSynchronized
  subst hsz
  have hD := hD0.self (sz := s.heap.size)
  generalize hAe : va_A [(h0, .inr (0, [.ref a1, .ref a2, .int tk, .int ob, .int co, .ref a3, .int rc, .ref a4])), (a1, .inl (c1, 300, .inr (.inl ce))), (a2, .inl (c2, 16, .inl rg)), (a3, .inl (c3, 300, .inl re)), (a4, .inl (c4, 300, .inl np))] s.heap.size = A at hD ⊢
  have hA : ∀ q : Nat, s.heap.size ≤ q → A q := fun q h => by rw [← hAe]; exact Or.inr h
  have hS : va_S A s.heap s.heap [] := va_S.rf
  generalize hQ9 : MQ below (va_Qv (fun u : Nat → Int32 => ∀ r, r < 16 → u r = hp_e (hp_col M) (hp_r (hp_col M) r)) (fun u t => hw_B (dC, dI) vwCl [(c1, .long), (c2, .int), (c3, .int), (c4, .int)] A ((fun u : Nat → Int32 => [(h0, .inr (0, [.ref a1, .ref a2, .int tk, .int ob, .int co, .ref a3, .int rc, .ref a4])), (a1, .inl (c1, 300, .inr (.inl ce))), (a2, .inl (c2, 16, .inl u)), (a3, .inl (c3, 300, .inl re)), (a4, .inl (c4, 300, .inl np))]) u) t) A) args s 0 0 A = Q9
  have hl := lv_entry ([.ref h0]) (n := 2) (Nat.le_of_ble_eq_true rfl)
  rw [show entryFrame m args 2 = _ from (congrArg (fun z => entryFrame m z 2) hargs).trans (lg_entry_eq m [.ref h0] 2)]
  generalize (lg_sl ([.ref h0]) ++ List.replicate (2 - (lg_sl ([.ref h0])).length) Slot.unset).toArray = ls at hl ⊢
  have hl : lv_has ls 2 [(0, .ref h0)] := hl
  obtain ⟨H, hH⟩ : ∃ H, H = s.heap := ⟨_, rfl⟩
  rw [← hH] at hP
  have hS : va_S A s.heap H [] := by rw [hH]; exact hS
  rw [← hH]
  generalize ([] : List Loc) = locs at hS ⊢
  refine lv_iconst (v := 0) hx hb dX0_redirectRegisters_0 (by decide) ?_
  refine hw_topi (y := nI 0) (nI_0.symm) ?_
  refine lv_istore_n hx hb dX0_redirectRegisters_1 rfl hl (by decide) rfl (fun ls hl => ?_)
  have hl : lv_has ls 2 [(1, .int (nI 0)), (0, .ref h0)] := hl
  have loop : ∀ (n9 : Nat) (k : Nat) (rg : Nat → Int32) (H : Heap) (locs : List Loc) (ls : Array Slot), 16 - k < n9 → (k ≤ 16 ∧ (∀ r, r < k → rg r = hp_e (hp_col M) (hp_r (hp_col M) r)) ∧ ∀ r, k ≤ r → r < 16 → rg r = hp_e M (hp_r M r)) → va_P (dC, dI) vwCl [(h0, .inr (0, [.ref a1, .ref a2, .int tk, .int ob, .int co, .ref a3, .int rc, .ref a4])), (a1, .inl (c1, 300, .inr (.inl ce))), (a2, .inl (c2, 16, .inl rg)), (a3, .inl (c3, 300, .inl re)), (a4, .inl (c4, 300, .inl np))] H → va_D A [(h0, .inr (0, [.ref a1, .ref a2, .int tk, .int ob, .int co, .ref a3, .int rc, .ref a4])), (a1, .inl (c1, 300, .inr (.inl ce))), (a2, .inl (c2, 16, .inl rg)), (a3, .inl (c3, 300, .inl re)), (a4, .inl (c4, 300, .inl np))] → va_S A s.heap H locs → lv_has ls 2 [(1, .int (nI k)), (0, .ref h0)] → W p l e (headSpec wsX0_redirectRegisters ({ frames := 1, cells := 0, slots := 0, locals := 21 })).room s m args below meth c H locs 0 0 Q9 (F0 m 2 ls []) := by
    intro n9
    induction n9 with
    | zero => intro k rg H locs ls hm; exact absurd hm (Nat.not_lt_zero _)
    | succ n9 ih =>
      intro k rg H locs ls hm hI hP hD hS hl
      refine lv_iload_n hx hb dX0_redirectRegisters_2 rfl (lv_at hl 0 rfl) ?_
      refine lv_bipush (v := 16) hx hb dX0_redirectRegisters_3 (by decide) ?_
      refine lv_icmp_ge hx hb dX0_redirectRegisters_5 (tgt := 30) (by decide) (fun hc => ?_) (fun hc => ?_)
      · have hk : k = 16 := by
          have h1 := (nI_leI (a := 16) (by decide) (by omega)).mp hc
          omega
        subst hk
        subst hQ9
        exact W.vret hx hb hr (fun t ht hWm => ⟨⟨rg, rfl, hI.2.1, by rw [ht]; exact hP, va_K.moved hWm.alike hK, hD⟩, hS.F ht⟩) hS.2.2 dX0_redirectRegisters_30
      · have hk : k < 16 := Nat.lt_of_not_le (fun h9 => hc ((nI_leI (a := 16) (by decide) (by omega)).mpr h9))
        refine lv_aload_n hx hb dX0_redirectRegisters_8 rfl (lv_at hl 1 rfl) ?_
        refine va_get (D := (dC, dI)) (ci := 0) (v := .ref a2) (C := RX0) (T := TX0) (N := 8) hx hb hts inX0 hown hK hP 0 rfl rfl 1 (by decide) (hts _ bw_fl_X0_13) (fun _ h9 => h9) rfl dX0_redirectRegisters_9 ?_
        refine lv_iload_n hx hb dX0_redirectRegisters_12 rfl (lv_at hl 0 rfl) ?_
        refine lv_aload_n hx hb dX0_redirectRegisters_13 rfl (lv_at hl 1 rfl) ?_
        refine lv_aload_n hx hb dX0_redirectRegisters_14 rfl (lv_at hl 1 rfl) ?_
        refine va_get (D := (dC, dI)) (ci := 0) (v := .ref a2) (C := RX0) (T := TX0) (N := 8) hx hb hts inX0 hown hK hP 0 rfl rfl 1 (by decide) (hts _ bw_fl_X0_13) (fun _ h9 => h9) rfl dX0_redirectRegisters_15 ?_
        refine lv_iload_n hx hb dX0_redirectRegisters_18 rfl (lv_at hl 0 rfl) ?_
        refine hw_iald (j := k) hx hb hK hP 2 1 rfl rfl (rfl) (hk) (by decide) dX0_redirectRegisters_19 ?_
        refine hw_topi (y := hp_e M (hp_r M k)) (hI.2.2 k (Nat.le_refl _) hk) ?_
        refine W.callR (W.runV (As := [.int (hp_e M (hp_r M k))]) (rest := [.int (nI k), .ref a2]) ⟨hx, hb, hml, hown, hts⟩ (c_X0_newPlaceOf l dC dI h0 a1 a2 a3 a4 c1 c2 c3 c4 ce rg tk ob co re rc np _ (hp_e_ix hW (hW.2.2.2.1 k hk))) (cwV 1 hts gw_X0_124 rfl rfl rfl ⟨rfl, by decide, by decide, by decide +kernel⟩ ⟨Nat.le_of_ble_eq_true rfl, Nat.le_of_ble_eq_true rfl⟩) ⟨hw_blind, va_recv (q0 := 0) (ci := 0) (q := (RX0, TX0, 8)) hK hP rfl rfl, hw_pay hP hK hD⟩ rfl rfl hl.1 rfl (lv_room (Nat.le_of_ble_eq_true rfl)) dX0_redirectRegisters_20 ⟨by decide, by decide⟩) ?_
        refine W.eq (g2 := F0 m 23 ls [.int (hp_nw np (hp_e M (hp_r M k))), .int (nI k), .ref a2]) rfl ?_
        refine hw_topi (y := hp_e (hp_col M) (hp_r (hp_col M) k)) (hp_nw_reg hW hN hk) ?_
        refine hw_iast (j := k) hx hb hK hP hD hS 2 1 rfl rfl (rfl) (hk) (by decide) dX0_redirectRegisters_23 (fun H locs hP hD hS => ?_)
        have hP : va_P (dC, dI) vwCl [(h0, .inr (0, [.ref a1, .ref a2, .int tk, .int ob, .int co, .ref a3, .int rc, .ref a4])), (a1, .inl (c1, 300, .inr (.inl ce))), (a2, .inl (c2, 16, .inl (upd rg k (hp_e (hp_col M) (hp_r (hp_col M) k))))), (a3, .inl (c3, 300, .inl re)), (a4, .inl (c4, 300, .inl np))] H := hP
        have hD : va_D A [(h0, .inr (0, [.ref a1, .ref a2, .int tk, .int ob, .int co, .ref a3, .int rc, .ref a4])), (a1, .inl (c1, 300, .inr (.inl ce))), (a2, .inl (c2, 16, .inl (upd rg k (hp_e (hp_col M) (hp_r (hp_col M) k))))), (a3, .inl (c3, 300, .inl re)), (a4, .inl (c4, 300, .inl np))] := hD
        refine lv_iinc (k := 0) (v := nI (k + 1)) hx hb dX0_redirectRegisters_24 hl rfl (nI_1 k) (by decide) rfl (fun ls hl => ?_)
        have hl : lv_has ls 2 [(1, .int (nI (k + 1))), (0, .ref h0)] := hl
        refine lv_goto hx hb dX0_redirectRegisters_27 (tgt := 2) (by decide) ?_
        exact ih (k + 1) (upd rg k (hp_e (hp_col M) (hp_r (hp_col M) k))) H locs ls (by omega) (⟨hk, fun r hr => by
            by_cases e9 : r = k
            · subst e9; exact pk_us
            · rw [pk_un e9]; exact hI.2.1 r (by omega), fun r h1 h2 => by rw [pk_un (by omega)]; exact hI.2.2 r (by omega) h2⟩) hP hD hS (lv_sub hl [0, 1] rfl)
  exact loop _ 0 rg H locs ls (Nat.lt_succ_self _) (⟨Nat.zero_le _, fun r hr => absurd hr (Nat.not_lt_zero _), fun r _ hr => hrg r hr⟩) hP hD hS (lv_sub hl [0, 1] rfl)

set_option maxHeartbeats 4000000 in
set_option maxRecDepth 100000 in
/-- redirectContentsAt(place) -/
theorem c_X0_redirectContentsAt (l : Launch) (dC : Nat → ClassId) (dI : Nat → Nat → Nat) (h0 a1 a2 a3 a4 : Nat) (c1 c2 c3 c4 : ClassId) (ce : Nat → Int64) (rg : Nat → Int32) (tk ob co : Int32) (re : Nat → Int32) (rc : Int32) (np : Nat → Int32) (sz : Nat) (M : hp_S) (hW : hp_W M) (o : Nat) (ho : o ∈ hp_L M) (hh : ce (hp_pl M o) = hp_h M o) (hr9 : ∀ i, i < hp_z M o → (ce (hp_pl M o + 1 + i)).toInt32 = -1 ∨ ∃ j : Nat, j < 300 ∧ (ce (hp_pl M o + 1 + i)).toInt32 = nI j) : Met l yX0_redirectContentsAt wsX0_redirectContentsAt ({ frames := 2, cells := 0, slots := 0, locals := 42 }) (va_Pc [.ref h0, .int (nI (hp_pl M o))] (hw_pre (dC, dI) vwCl [(c1, .long), (c2, .int), (c3, .int), (c4, .int)] [(h0, .inr (0, [.ref a1, .ref a2, .int tk, .int ob, .int co, .ref a3, .int rc, .ref a4])), (a1, .inl (c1, 300, .inr (.inl ce))), (a2, .inl (c2, 16, .inl rg)), (a3, .inl (c3, 300, .inl re)), (a4, .inl (c4, 300, .inl np))] sz)) (va_Qv (fun u : Nat → Int64 => u = hp_rd np ce (hp_pl M o + 1) (hp_pl M o + 1 + hp_z M o)) (fun u t => hw_B (dC, dI) vwCl [(c1, .long), (c2, .int), (c3, .int), (c4, .int)] (va_A [(h0, .inr (0, [.ref a1, .ref a2, .int tk, .int ob, .int co, .ref a3, .int rc, .ref a4])), (a1, .inl (c1, 300, .inr (.inl ce))), (a2, .inl (c2, 16, .inl rg)), (a3, .inl (c3, 300, .inl re)), (a4, .inl (c4, 300, .inl np))] sz) ((fun u : Nat → Int64 => [(h0, .inr (0, [.ref a1, .ref a2, .int tk, .int ob, .int co, .ref a3, .int rc, .ref a4])), (a1, .inl (c1, 300, .inr (.inl u))), (a2, .inl (c2, 16, .inl rg)), (a3, .inl (c3, 300, .inl re)), (a4, .inl (c4, 300, .inl np))]) u) t) (va_A [(h0, .inr (0, [.ref a1, .ref a2, .int tk, .int ob, .int co, .ref a3, .int rc, .ref a4])), (a1, .inl (c1, 300, .inr (.inl ce))), (a2, .inl (c2, 16, .inl rg)), (a3, .inl (c3, 300, .inl re)), (a4, .inl (c4, 300, .inl np))] sz)) 0 0 (va_A [(h0, .inr (0, [.ref a1, .ref a2, .int tk, .int ob, .int co, .ref a3, .int rc, .ref a4])), (a1, .inl (c1, 300, .inr (.inl ce))), (a2, .inl (c2, 16, .inl rg)), (a3, .inl (c3, 300, .inl re)), (a4, .inl (c4, 300, .inl np))] sz) := by
  refine Met.ofW (cc := cX0_redirectContentsAt) (maxL := 4) (ret := none) (by decide) rfl ?_
  intro p e s m args below meth c s₁ B hml hv
  obtain ⟨hargs, hsz, hP, hK, hD0⟩ := hv
  have hx := B.exec
  have hb := B.bytes
  have hr := B.returns
  have hts : ∀ w ∈ wb, w.before _ s = true := fun w h => atoms_spec (ws := wsX0_redirectContentsAt) B.pre w (List.mem_cons_of_mem _ h)
  have hown : s.vm.findClass RX0 = some m.cls := findClass_of_methodNamed B.named
  have hlocks := B.notSynchronized
  subst hsz
  have hD := hD0.self (sz := s.heap.size)
  generalize hAe : va_A [(h0, .inr (0, [.ref a1, .ref a2, .int tk, .int ob, .int co, .ref a3, .int rc, .ref a4])), (a1, .inl (c1, 300, .inr (.inl ce))), (a2, .inl (c2, 16, .inl rg)), (a3, .inl (c3, 300, .inl re)), (a4, .inl (c4, 300, .inl np))] s.heap.size = A at hD ⊢
  have hA : ∀ q : Nat, s.heap.size ≤ q → A q := fun q h => by rw [← hAe]; exact Or.inr h
  have hS : va_S A s.heap s.heap [] := va_S.rf
  generalize hQ9 : MQ below (va_Qv (fun u : Nat → Int64 => u = hp_rd np ce (hp_pl M o + 1) (hp_pl M o + 1 + hp_z M o)) (fun u t => hw_B (dC, dI) vwCl [(c1, .long), (c2, .int), (c3, .int), (c4, .int)] A ((fun u : Nat → Int64 => [(h0, .inr (0, [.ref a1, .ref a2, .int tk, .int ob, .int co, .ref a3, .int rc, .ref a4])), (a1, .inl (c1, 300, .inr (.inl u))), (a2, .inl (c2, 16, .inl rg)), (a3, .inl (c3, 300, .inl re)), (a4, .inl (c4, 300, .inl np))]) u) t) A) args s 0 0 A = Q9
  have hl := lv_entry ([.ref h0, .int (nI (hp_pl M o))]) (n := 4) (Nat.le_of_ble_eq_true rfl)
  rw [show entryFrame m args 4 = _ from (congrArg (fun z => entryFrame m z 4) hargs).trans (lg_entry_eq m [.ref h0, .int (nI (hp_pl M o))] 4)]
  generalize (lg_sl ([.ref h0, .int (nI (hp_pl M o))]) ++ List.replicate (4 - (lg_sl ([.ref h0, .int (nI (hp_pl M o))])).length) Slot.unset).toArray = ls at hl ⊢
  have hl : lv_has ls 4 [(0, .ref h0), (1, .int (nI (hp_pl M o)))] := hl
  obtain ⟨H, hH⟩ : ∃ H, H = s.heap := ⟨_, rfl⟩
  rw [← hH] at hP
  have hS : va_S A s.heap H [] := by rw [hH]; exact hS
  rw [← hH]
  generalize ([] : List Loc) = locs at hS ⊢
  have hlt := hp_pl_lt hW ho
  refine lv_iload_n hx hb dX0_redirectContentsAt_0 rfl (lv_at hl 1 rfl) ?_
  refine lv_aload_n hx hb dX0_redirectContentsAt_1 rfl (lv_at hl 0 rfl) ?_
  refine lv_iload_n hx hb dX0_redirectContentsAt_2 rfl (lv_at hl 1 rfl) ?_
  refine W.callR (W.runV (As := [.int (nI (hp_pl M o))]) (rest := [.int (nI (hp_pl M o))]) ⟨hx, hb, hml, hown, hts⟩ (c_X0_sizeAt l dC dI h0 a1 a2 a3 a4 c1 c2 c3 c4 ce rg tk ob co re rc np _ (by omega)) (cwV 1 hts gw_X0_121 rfl rfl rfl ⟨rfl, by decide, by decide, by decide +kernel⟩ ⟨Nat.le_of_ble_eq_true rfl, Nat.le_of_ble_eq_true rfl⟩) ⟨hw_blind, va_recv (q0 := 0) (ci := 0) (q := (RX0, TX0, 8)) hK hP rfl rfl, hw_pay hP hK hD⟩ rfl rfl hl.1 rfl (lv_room (Nat.le_of_ble_eq_true rfl)) dX0_redirectContentsAt_3 ⟨by decide, by decide⟩) ?_
  refine W.eq (g2 := F0 m 6 ls [.int (1 + (ce (hp_pl M o)).toInt32 >>> ((2 : Int32) &&& 31)), .int (nI (hp_pl M o))]) rfl ?_
  refine hw_topi (y := nI (1 + hp_z M o)) (hp_rsize hW ho hh) ?_
  refine lv_iadd hx hb dX0_redirectContentsAt_6 ?_
  refine hw_topi (y := nI (hp_pl M o + (1 + hp_z M o))) (nI_add _ _) ?_
  refine lv_istore_n hx hb dX0_redirectContentsAt_7 rfl hl (by decide) rfl (fun ls hl => ?_)
  have hl : lv_has ls 4 [(2, .int (nI (hp_pl M o + (1 + hp_z M o)))), (0, .ref h0), (1, .int (nI (hp_pl M o)))] := hl
  refine lv_iload_n hx hb dX0_redirectContentsAt_8 rfl (lv_at hl 2 rfl) ?_
  refine lv_iconst (v := 1) hx hb dX0_redirectContentsAt_9 (by decide) ?_
  refine lv_iadd hx hb dX0_redirectContentsAt_10 ?_
  refine hw_topi (y := nI (hp_pl M o + 1 + 0)) (nI_1 _) ?_
  refine lv_istore_n hx hb dX0_redirectContentsAt_11 rfl hl (by decide) rfl (fun ls hl => ?_)
  have hl : lv_has ls 4 [(3, .int (nI (hp_pl M o + 1 + 0))), (2, .int (nI (hp_pl M o + (1 + hp_z M o)))), (0, .ref h0), (1, .int (nI (hp_pl M o)))] := hl
  rw [show ce = hp_rd np ce (hp_pl M o + 1) (hp_pl M o + 1 + 0) from (hp_rd_0 np ce _).symm] at hP hD
  have loop : ∀ (n9 : Nat) (i : Nat) (H : Heap) (locs : List Loc) (ls : Array Slot), hp_z M o - i < n9 → (i ≤ hp_z M o) → va_P (dC, dI) vwCl [(h0, .inr (0, [.ref a1, .ref a2, .int tk, .int ob, .int co, .ref a3, .int rc, .ref a4])), (a1, .inl (c1, 300, .inr (.inl (hp_rd np ce (hp_pl M o + 1) (hp_pl M o + 1 + i))))), (a2, .inl (c2, 16, .inl rg)), (a3, .inl (c3, 300, .inl re)), (a4, .inl (c4, 300, .inl np))] H → va_D A [(h0, .inr (0, [.ref a1, .ref a2, .int tk, .int ob, .int co, .ref a3, .int rc, .ref a4])), (a1, .inl (c1, 300, .inr (.inl (hp_rd np ce (hp_pl M o + 1) (hp_pl M o + 1 + i))))), (a2, .inl (c2, 16, .inl rg)), (a3, .inl (c3, 300, .inl re)), (a4, .inl (c4, 300, .inl np))] → va_S A s.heap H locs → lv_has ls 4 [(3, .int (nI (hp_pl M o + 1 + i))), (2, .int (nI (hp_pl M o + (1 + hp_z M o)))), (0, .ref h0), (1, .int (nI (hp_pl M o)))] → W p l e (headSpec wsX0_redirectContentsAt ({ frames := 2, cells := 0, slots := 0, locals := 42 })).room s m args below meth c H locs 0 0 Q9 (F0 m 12 ls []) := by
    intro n9
    induction n9 with
    | zero => intro i H locs ls hm; exact absurd hm (Nat.not_lt_zero _)
    | succ n9 ih =>
      intro i H locs ls hm hI hP hD hS hl
      refine lv_iload_n hx hb dX0_redirectContentsAt_12 rfl (lv_at hl 0 rfl) ?_
      refine lv_iload_n hx hb dX0_redirectContentsAt_13 rfl (lv_at hl 1 rfl) ?_
      refine lv_icmp_ge hx hb dX0_redirectContentsAt_14 (tgt := 41) (by decide) (fun hc => ?_) (fun hc => ?_)
      · have hi : i = hp_z M o := by
          have h1 := (nI_leI (by omega) (by omega)).mp hc
          omega
        subst hi
        subst hQ9
        exact W.vret hx hb hr (fun t ht hWm => ⟨⟨hp_rd np ce (hp_pl M o + 1) (hp_pl M o + 1 + hp_z M o), rfl, rfl, by rw [ht]; exact hP, va_K.moved hWm.alike hK, hD⟩, hS.F ht⟩) hS.2.2 dX0_redirectContentsAt_41
      · have hi : i < hp_z M o := Nat.lt_of_not_le (fun h9 => hc ((nI_leI (by omega) (by omega)).mpr (by omega)))
        have hat : hp_rd np ce (hp_pl M o + 1) (hp_pl M o + 1 + i) (hp_pl M o + 1 + i) = ce (hp_pl M o + 1 + i) := by unfold hp_rd; rw [if_neg (by omega)]
        refine lv_aload_n hx hb dX0_redirectContentsAt_17 rfl (lv_at hl 2 rfl) ?_
        refine va_get (D := (dC, dI)) (ci := 0) (v := .ref a1) (C := RX0) (T := TX0) (N := 8) hx hb hts inX0 hown hK hP 0 rfl rfl 0 (by decide) (hts _ bw_fl_X0_9) (fun _ h9 => h9) rfl dX0_redirectContentsAt_18 ?_
        refine lv_iload_n hx hb dX0_redirectContentsAt_21 rfl (lv_at hl 0 rfl) ?_
        refine lv_aload_n hx hb dX0_redirectContentsAt_22 rfl (lv_at hl 2 rfl) ?_
        refine lv_aload_n hx hb dX0_redirectContentsAt_23 rfl (lv_at hl 2 rfl) ?_
        refine va_get (D := (dC, dI)) (ci := 0) (v := .ref a1) (C := RX0) (T := TX0) (N := 8) hx hb hts inX0 hown hK hP 0 rfl rfl 0 (by decide) (hts _ bw_fl_X0_9) (fun _ h9 => h9) rfl dX0_redirectContentsAt_24 ?_
        refine lv_iload_n hx hb dX0_redirectContentsAt_27 rfl (lv_at hl 0 rfl) ?_
        refine hw_lald (j := hp_pl M o + 1 + i) hx hb hK hP 1 0 rfl rfl (rfl) (by omega) (by decide) dX0_redirectContentsAt_28 ?_
        refine lv_l2i hx hb dX0_redirectContentsAt_29 rfl ?_
        refine W.callR (W.runV (As := [.int (((hp_rd np ce (hp_pl M o + 1) (hp_pl M o + 1 + i)) (hp_pl M o + 1 + i)).toInt32)]) (rest := [.int (nI (hp_pl M o + 1 + i)), .ref a1]) ⟨hx, hb, hml, hown, hts⟩ (c_X0_newPlaceOf l dC dI h0 a1 a2 a3 a4 c1 c2 c3 c4 (hp_rd np ce (hp_pl M o + 1) (hp_pl M o + 1 + i)) rg tk ob co re rc np _ (by rw [hat]; exact hr9 i hi)) (cwV 1 hts gw_X0_124 rfl rfl rfl ⟨rfl, by decide, by decide, by decide +kernel⟩ ⟨Nat.le_of_ble_eq_true rfl, Nat.le_of_ble_eq_true rfl⟩) ⟨hw_blind, va_recv (q0 := 0) (ci := 0) (q := (RX0, TX0, 8)) hK hP rfl rfl, hw_pay hP hK hD⟩ rfl rfl hl.1 rfl (lv_room (Nat.le_of_ble_eq_true rfl)) dX0_redirectContentsAt_30 ⟨by decide, by decide⟩) ?_
        refine W.eq (g2 := F0 m 33 ls [.int (hp_nw np (hp_rd np ce (hp_pl M o + 1) (hp_pl M o + 1 + i) (hp_pl M o + 1 + i)).toInt32), .int (nI (hp_pl M o + 1 + i)), .ref a1]) rfl ?_
        refine lv_i2l hx hb dX0_redirectContentsAt_33 rfl ?_
        refine hw_last (j := hp_pl M o + 1 + i) hx hb hK hP hD hS 1 0 rfl rfl (rfl) (by omega) (by decide) dX0_redirectContentsAt_34 (fun H locs hP hD hS => ?_)
        have hP : va_P (dC, dI) vwCl [(h0, .inr (0, [.ref a1, .ref a2, .int tk, .int ob, .int co, .ref a3, .int rc, .ref a4])), (a1, .inl (c1, 300, .inr (.inl (vp_updL (hp_rd np ce (hp_pl M o + 1) (hp_pl M o + 1 + i)) (hp_pl M o + 1 + i) ((hp_nw np (hp_rd np ce (hp_pl M o + 1) (hp_pl M o + 1 + i) (hp_pl M o + 1 + i)).toInt32).toInt64))))), (a2, .inl (c2, 16, .inl rg)), (a3, .inl (c3, 300, .inl re)), (a4, .inl (c4, 300, .inl np))] H := hP
        have hD : va_D A [(h0, .inr (0, [.ref a1, .ref a2, .int tk, .int ob, .int co, .ref a3, .int rc, .ref a4])), (a1, .inl (c1, 300, .inr (.inl (vp_updL (hp_rd np ce (hp_pl M o + 1) (hp_pl M o + 1 + i)) (hp_pl M o + 1 + i) ((hp_nw np (hp_rd np ce (hp_pl M o + 1) (hp_pl M o + 1 + i) (hp_pl M o + 1 + i)).toInt32).toInt64))))), (a2, .inl (c2, 16, .inl rg)), (a3, .inl (c3, 300, .inl re)), (a4, .inl (c4, 300, .inl np))] := hD
        rw [show vp_updL (hp_rd np ce (hp_pl M o + 1) (hp_pl M o + 1 + i)) (hp_pl M o + 1 + i) ((hp_nw np (hp_rd np ce (hp_pl M o + 1) (hp_pl M o + 1 + i) (hp_pl M o + 1 + i)).toInt32).toInt64) = hp_rd np ce (hp_pl M o + 1) (hp_pl M o + 1 + (i + 1)) from hp_rd_s np ce (Nat.le_add_right _ _)] at hP hD
        refine lv_iinc (k := 0) (v := nI (hp_pl M o + 1 + (i + 1))) hx hb dX0_redirectContentsAt_35 hl rfl (nI_1 _) (by decide) rfl (fun ls hl => ?_)
        have hl : lv_has ls 4 [(3, .int (nI (hp_pl M o + 1 + (i + 1)))), (2, .int (nI (hp_pl M o + (1 + hp_z M o)))), (0, .ref h0), (1, .int (nI (hp_pl M o)))] := hl
        refine lv_goto hx hb dX0_redirectContentsAt_38 (tgt := 12) (by decide) ?_
        exact ih (i + 1) H locs ls (by omega) (hi) hP hD hS (lv_sub hl [0, 1, 2, 3] rfl)
  exact loop _ 0 H locs ls (Nat.lt_succ_self _) (Nat.zero_le _) hP hD hS (lv_sub hl [0, 1, 2, 3] rfl)
end
section
set_option maxHeartbeats 4000000 in
set_option maxRecDepth 100000 in
/-- redirectContents() -/
theorem c_X0_redirectContents (l : Launch) (dC : Nat → ClassId) (dI : Nat → Nat → Nat) (h0 a1 a2 a3 a4 : Nat) (c1 c2 c3 c4 : ClassId) (ce : Nat → Int64) (rg : Nat → Int32) (tk ob co : Int32) (re : Nat → Int32) (rc : Int32) (np : Nat → Int32) (sz : Nat) (M : hp_S) (hW : hp_W M) (R : List Nat) (hR : R.Nodup) (hb9 : ∀ o, o ∈ R ↔ hp_b M o = true) (hrc : rc = nI R.length) (hre : ∀ j o, R[j]? = some o → re j = nI (hp_pl M o)) (hN : hp_N M (hp_L M) [] np) (hX : hp_X M [] ce) : Met l yX0_redirectContents wsX0_redirectContents ({ frames := 3, cells := 0, slots := 0, locals := 65 }) (va_Pc [.ref h0] (hw_pre (dC, dI) vwCl [(c1, .long), (c2, .int), (c3, .int), (c4, .int)] [(h0, .inr (0, [.ref a1, .ref a2, .int tk, .int ob, .int co, .ref a3, .int rc, .ref a4])), (a1, .inl (c1, 300, .inr (.inl ce))), (a2, .inl (c2, 16, .inl rg)), (a3, .inl (c3, 300, .inl re)), (a4, .inl (c4, 300, .inl np))] sz)) (va_Qv (fun u : Nat → Int64 => hp_X M R u) (fun u t => hw_B (dC, dI) vwCl [(c1, .long), (c2, .int), (c3, .int), (c4, .int)] (va_A [(h0, .inr (0, [.ref a1, .ref a2, .int tk, .int ob, .int co, .ref a3, .int rc, .ref a4])), (a1, .inl (c1, 300, .inr (.inl ce))), (a2, .inl (c2, 16, .inl rg)), (a3, .inl (c3, 300, .inl re)), (a4, .inl (c4, 300, .inl np))] sz) ((fun u : Nat → Int64 => [(h0, .inr (0, [.ref a1, .ref a2, .int tk, .int ob, .int co, .ref a3, .int rc, .ref a4])), (a1, .inl (c1, 300, .inr (.inl u))), (a2, .inl (c2, 16, .inl rg)), (a3, .inl (c3, 300, .inl re)), (a4, .inl (c4, 300, .inl np))]) u) t) (va_A [(h0, .inr (0, [.ref a1, .ref a2, .int tk, .int ob, .int co, .ref a3, .int rc, .ref a4])), (a1, .inl (c1, 300, .inr (.inl ce))), (a2, .inl (c2, 16, .inl rg)), (a3, .inl (c3, 300, .inl re)), (a4, .inl (c4, 300, .inl np))] sz)) 0 0 (va_A [(h0, .inr (0, [.ref a1, .ref a2, .int tk, .int ob, .int co, .ref a3, .int rc, .ref a4])), (a1, .inl (c1, 300, .inr (.inl ce))), (a2, .inl (c2, 16, .inl rg)), (a3, .inl (c3, 300, .inl re)), (a4, .inl (c4, 300, .inl np))] sz) := by
  refine Met.ofW (cc := cX0_redirectContents) (maxL := 3) (ret := none) (by decide) rfl ?_
  intro p e s m args below meth c s₁ B hml hv
  obtain ⟨hargs, hsz, hP, hK, hD0⟩ := hv
  have hx := B.exec
  have hb := B.bytes
  have hr := B.returns
  have hts : ∀ w ∈ wb, w.before _ s = true := fun w h => atoms_spec (ws := wsX0_redirectContents) B.pre w (List.mem_cons_of_mem _ h)
  have hown : s.vm.findClass RX0 = some m.cls := findClass_of_methodNamed B.named
  have hlocks := B.notSynchronized
  subst hsz
  have hD := hD0.self (sz := s.heap.size)
  generalize hAe : va_A [(h0, .inr (0, [.ref a1, .ref a2, .int tk, .int ob, .int co, .ref a3, .int rc, .ref a4])), (a1, .inl (c1, 300, .inr (.inl ce))), (a2, .inl (c2, 16, .inl rg)), (a3, .inl (c3, 300, .inl re)), (a4, .inl (c4, 300, .inl np))] s.heap.size = A at hD ⊢
  have hA : ∀ q : Nat, s.heap.size ≤ q → A q := fun q h => by rw [← hAe]; exact Or.inr h
  have hS : va_S A s.heap s.heap [] := va_S.rf
  generalize hQ9 : MQ below (va_Qv (fun u : Nat → Int64 => hp_X M R u) (fun u t => hw_B (dC, dI) vwCl [(c1, .long), (c2, .int), (c3, .int), (c4, .int)] A ((fun u : Nat → Int64 => [(h0, .inr (0, [.ref a1, .ref a2, .int tk, .int ob, .int co, .ref a3, .int rc, .ref a4])), (a1, .inl (c1, 300, .inr (.inl u))), (a2, .inl (c2, 16, .inl rg)), (a3, .inl (c3, 300, .inl re)), (a4, .inl (c4, 300, .inl np))]) u) t) A) args s 0 0 A = Q9
  have hl := lv_entry ([.ref h0]) (n := 3) (Nat.le_of_ble_eq_true rfl)
  rw [show entryFrame m args 3 = _ from (congrArg (fun z => entryFrame m z 3) hargs).trans (lg_entry_eq m [.ref h0] 3)]
  generalize (lg_sl ([.ref h0]) ++ List.replicate (3 - (lg_sl ([.ref h0])).length) Slot.unset).toArray = ls at hl ⊢
  have hl : lv_has ls 3 [(0, .ref h0)] := hl
  obtain ⟨H, hH⟩ : ∃ H, H = s.heap := ⟨_, rfl⟩
  rw [← hH] at hP
  have hS : va_S A s.heap H [] := by rw [hH]; exact hS
  rw [← hH]
  generalize ([] : List Loc) = locs at hS ⊢
  have hRl : R.length ≤ 300 := Nat.le_trans (hp_sub_len hR (fun o h => hp_b_in hW ((hb9 o).mp h))) (hp_L_len hW)
  refine lv_iconst (v := 0) hx hb dX0_redirectContents_0 (by decide) ?_
  refine hw_topi (y := nI 0) (nI_0.symm) ?_
  refine lv_istore_n hx hb dX0_redirectContents_1 rfl hl (by decide) rfl (fun ls hl => ?_)
  have hl : lv_has ls 3 [(1, .int (nI 0)), (0, .ref h0)] := hl
  have loop : ∀ (n9 : Nat) (k : Nat) (ce : Nat → Int64) (H : Heap) (locs : List Loc) (ls : Array Slot), R.length - k < n9 → (k ≤ R.length ∧ hp_X M (R.take k) ce) → va_P (dC, dI) vwCl [(h0, .inr (0, [.ref a1, .ref a2, .int tk, .int ob, .int co, .ref a3, .int rc, .ref a4])), (a1, .inl (c1, 300, .inr (.inl ce))), (a2, .inl (c2, 16, .inl rg)), (a3, .inl (c3, 300, .inl re)), (a4, .inl (c4, 300, .inl np))] H → va_D A [(h0, .inr (0, [.ref a1, .ref a2, .int tk, .int ob, .int co, .ref a3, .int rc, .ref a4])), (a1, .inl (c1, 300, .inr (.inl ce))), (a2, .inl (c2, 16, .inl rg)), (a3, .inl (c3, 300, .inl re)), (a4, .inl (c4, 300, .inl np))] → va_S A s.heap H locs → lv_has ls 3 [(1, .int (nI k)), (0, .ref h0)] → W p l e (headSpec wsX0_redirectContents ({ frames := 3, cells := 0, slots := 0, locals := 65 })).room s m args below meth c H locs 0 0 Q9 (F0 m 2 ls []) := by
    intro n9
    induction n9 with
    | zero => intro k ce H locs ls hm; exact absurd hm (Nat.not_lt_zero _)
    | succ n9 ih =>
      intro k ce H locs ls hm hI hP hD hS hl
      refine lv_iload_n hx hb dX0_redirectContents_2 rfl (lv_at hl 0 rfl) ?_
      refine lv_aload_n hx hb dX0_redirectContents_3 rfl (lv_at hl 1 rfl) ?_
      refine va_get (D := (dC, dI)) (ci := 0) (v := .int rc) (C := RX0) (T := TX0) (N := 8) hx hb hts inX0 hown hK hP 0 rfl rfl 6 (by decide) (hts _ bw_fl_X0_30) (fun _ h9 => h9) rfl dX0_redirectContents_4 ?_
      refine lv_icmp_ge hx hb dX0_redirectContents_7 (tgt := 37) (by decide) (fun hc => ?_) (fun hc => ?_)
      · rw [hrc] at hc
        have hk := (nI_leI (by omega) (by omega)).mp hc
        have hend := hI.2
        rw [hp_take_all hk] at hend
        subst hQ9
        exact W.vret hx hb hr (fun t ht hWm => ⟨⟨ce, rfl, hend, by rw [ht]; exact hP, va_K.moved hWm.alike hK, hD⟩, hS.F ht⟩) hS.2.2 dX0_redirectContents_37
      · have hk : k < R.length := Nat.lt_of_not_le (fun h9 => hc (by rw [hrc]; exact (nI_leI (by omega) (by omega)).mpr h9))
        obtain ⟨o, ho⟩ : ∃ o, R[k]? = some o := ⟨_, List.getElem?_eq_getElem hk⟩
        have hbo := (hb9 o).mp (List.mem_of_getElem? ho)
        have hoL := hp_b_in hW hbo
        have hcell := hI.2 o hoL
        have hlt := hp_pl_lt hW hoL
        have hnot := hp_take_not hR ho
        refine lv_aload_n hx hb dX0_redirectContents_10 rfl (lv_at hl 1 rfl) ?_
        refine va_get (D := (dC, dI)) (ci := 0) (v := .ref a3) (C := RX0) (T := TX0) (N := 8) hx hb hts inX0 hown hK hP 0 rfl rfl 5 (by decide) (hts _ bw_fl_X0_27) (fun _ h9 => h9) rfl dX0_redirectContents_11 ?_
        refine lv_iload_n hx hb dX0_redirectContents_14 rfl (lv_at hl 0 rfl) ?_
        refine hw_iald (j := k) hx hb hK hP 3 2 rfl rfl (rfl) (by omega) (by decide) dX0_redirectContents_15 ?_
        refine hw_topi (y := nI (hp_pl M o)) (hre k o ho) ?_
        refine lv_istore_n hx hb dX0_redirectContents_16 rfl hl (by decide) rfl (fun ls hl => ?_)
        have hl : lv_has ls 3 [(2, .int (nI (hp_pl M o))), (1, .int (nI k)), (0, .ref h0)] := hl
        refine lv_aload_n hx hb dX0_redirectContents_17 rfl (lv_at hl 2 rfl) ?_
        refine lv_iload_n hx hb dX0_redirectContents_18 rfl (lv_at hl 0 rfl) ?_
        refine W.callR (W.runV (As := [.int (nI (hp_pl M o))]) (rest := []) ⟨hx, hb, hml, hown, hts⟩ (c_X0_kindAt l dC dI h0 a1 a2 a3 a4 c1 c2 c3 c4 ce rg tk ob co re rc np _ (by omega)) (cwV 1 hts gw_X0_59 rfl rfl rfl ⟨rfl, by decide, by decide, by decide +kernel⟩ ⟨Nat.le_of_ble_eq_true rfl, Nat.le_of_ble_eq_true rfl⟩) ⟨hw_blind, va_recv (q0 := 0) (ci := 0) (q := (RX0, TX0, 8)) hK hP rfl rfl, hw_pay hP hK hD⟩ rfl rfl hl.1 rfl (lv_room (Nat.le_of_ble_eq_true rfl)) dX0_redirectContents_19 ⟨by decide, by decide⟩) ?_
        refine W.eq (g2 := F0 m 22 ls [.int ((ce (hp_pl M o)).toInt32 &&& 3)]) rfl ?_
        refine hw_topi (y := nI (hp_k M o)) (hp_rkind hW hoL hcell.1) ?_
        refine lv_iconst (v := 2) hx hb dX0_redirectContents_22 (by decide) ?_
        refine lv_icmp_eq hx hb dX0_redirectContents_23 (tgt := 31) (by decide) (fun hc => ?_) (fun hc => ?_)
        · have hk2 : hp_k M o = 2 := (hp_k1 hW hoL (n := 2) (by decide)).mp hc
          refine lv_iinc (k := 1) (v := nI (k + 1)) hx hb dX0_redirectContents_31 hl rfl (nI_1 k) (by decide) rfl (fun ls hl => ?_)
          have hl : lv_has ls 3 [(1, .int (nI (k + 1))), (2, .int (nI (hp_pl M o))), (0, .ref h0)] := hl
          refine lv_goto hx hb dX0_redirectContents_34 (tgt := 2) (by decide) ?_
          exact ih (k + 1) ce H locs ls (by omega) (⟨hk, by rw [hp_take ho]; exact hp_X_num hI.2 hbo hk2⟩) hP hD hS (lv_sub hl [0, 2] rfl)
        · have hk2 : hp_k M o ≠ 2 := fun h9 => hc (by rw [h9]; decide)
          refine lv_aload_n hx hb dX0_redirectContents_26 rfl (lv_at hl 2 rfl) ?_
          refine lv_iload_n hx hb dX0_redirectContents_27 rfl (lv_at hl 0 rfl) ?_
          refine hw_callv (va_runV (As := [.int (nI (hp_pl M o))]) (rest := []) ⟨hx, hb, hml, hown, hts⟩ (c_X0_redirectContentsAt l dC dI h0 a1 a2 a3 a4 c1 c2 c3 c4 ce rg tk ob co re rc np _ M hW o hoL hcell.1 (fun i hi => by
              have h1 := hcell.2 i hi
              rw [if_neg hnot] at h1
              rw [show hp_pl M o + 1 + i = hp_pl M o + (1 + i) from by omega, hp_rref hk2 h1]
              exact hp_e_ix hW (hW.2.2.2.2.1 o hoL hk2 i hi))) (cwV 1 hts gw_X0_127 rfl rfl rfl ⟨rfl, by decide, by decide, by decide +kernel⟩ ⟨Nat.le_of_ble_eq_true rfl, Nat.le_of_ble_eq_true rfl⟩) ⟨hw_blind, va_recv (q0 := 0) (ci := 0) (q := (RX0, TX0, 8)) hK hP rfl rfl, hw_pay hP hK hD⟩ rfl rfl hl.1 rfl (lv_room (Nat.le_of_ble_eq_true rfl)) dX0_redirectContents_28 ⟨by decide, by decide⟩) hD hS hA (fun u9 H locs hw hP hD hS => ?_)
          obtain ⟨ce1, hce1⟩ : ∃ z, z = u9 := ⟨_, rfl⟩
          rw [← hce1] at hP hD hw
          have hP : va_P (dC, dI) vwCl [(h0, .inr (0, [.ref a1, .ref a2, .int tk, .int ob, .int co, .ref a3, .int rc, .ref a4])), (a1, .inl (c1, 300, .inr (.inl ce1))), (a2, .inl (c2, 16, .inl rg)), (a3, .inl (c3, 300, .inl re)), (a4, .inl (c4, 300, .inl np))] H := hP
          have hD : va_D A [(h0, .inr (0, [.ref a1, .ref a2, .int tk, .int ob, .int co, .ref a3, .int rc, .ref a4])), (a1, .inl (c1, 300, .inr (.inl ce1))), (a2, .inl (c2, 16, .inl rg)), (a3, .inl (c3, 300, .inl re)), (a4, .inl (c4, 300, .inl np))] := hD
          refine lv_iinc (k := 1) (v := nI (k + 1)) hx hb dX0_redirectContents_31 hl rfl (nI_1 k) (by decide) rfl (fun ls hl => ?_)
          have hl : lv_has ls 3 [(1, .int (nI (k + 1))), (2, .int (nI (hp_pl M o))), (0, .ref h0)] := hl
          refine lv_goto hx hb dX0_redirectContents_34 (tgt := 2) (by decide) ?_
          exact ih (k + 1) ce1 H locs ls (by omega) (⟨hk, by rw [hp_take ho, hw]; exact hp_X_ref hW hI.2 hN hbo hk2 hnot⟩) hP hD hS (lv_sub hl [0, 2] rfl)
  exact loop _ 0 ce H locs ls (Nat.lt_succ_self _) (⟨Nat.zero_le _, hX⟩) hP hD hS (lv_sub hl [0, 1] rfl)

set_option maxHeartbeats 4000000 in
set_option maxRecDepth 100000 in
/-- moveDown() -/
theorem c_X0_moveDown (l : Launch) (dC : Nat → ClassId) (dI : Nat → Nat → Nat) (h0 a1 a2 a3 a4 : Nat) (c1 c2 c3 c4 : ClassId) (ce : Nat → Int64) (rg : Nat → Int32) (tk ob co : Int32) (re : Nat → Int32) (rc : Int32) (np : Nat → Int32) (sz : Nat) (M : hp_S) (hW : hp_W M) (hob : ob = nI (hp_L M).length) (hN : hp_N M (hp_L M) [] np) (hV : hp_V M [] (hp_L M) ce) : Met l yX0_moveDown wsX0_moveDown ({ frames := 2, cells := 0, slots := 0, locals := 60 }) (va_Pc [.ref h0] (hw_pre (dC, dI) vwCl [(c1, .long), (c2, .int), (c3, .int), (c4, .int)] [(h0, .inr (0, [.ref a1, .ref a2, .int tk, .int ob, .int co, .ref a3, .int rc, .ref a4])), (a1, .inl (c1, 300, .inr (.inl ce))), (a2, .inl (c2, 16, .inl rg)), (a3, .inl (c3, 300, .inl re)), (a4, .inl (c4, 300, .inl np))] sz)) (va_Qv (fun u : Nat → Int64 => hp_V M (hp_L M) [] u) (fun u t => hw_B (dC, dI) vwCl [(c1, .long), (c2, .int), (c3, .int), (c4, .int)] (va_A [(h0, .inr (0, [.ref a1, .ref a2, .int tk, .int ob, .int co, .ref a3, .int rc, .ref a4])), (a1, .inl (c1, 300, .inr (.inl ce))), (a2, .inl (c2, 16, .inl rg)), (a3, .inl (c3, 300, .inl re)), (a4, .inl (c4, 300, .inl np))] sz) ((fun u : Nat → Int64 => [(h0, .inr (0, [.ref a1, .ref a2, .int tk, .int ob, .int co, .ref a3, .int rc, .ref a4])), (a1, .inl (c1, 300, .inr (.inl u))), (a2, .inl (c2, 16, .inl rg)), (a3, .inl (c3, 300, .inl re)), (a4, .inl (c4, 300, .inl np))]) u) t) (va_A [(h0, .inr (0, [.ref a1, .ref a2, .int tk, .int ob, .int co, .ref a3, .int rc, .ref a4])), (a1, .inl (c1, 300, .inr (.inl ce))), (a2, .inl (c2, 16, .inl rg)), (a3, .inl (c3, 300, .inl re)), (a4, .inl (c4, 300, .inl np))] sz)) 0 0 (va_A [(h0, .inr (0, [.ref a1, .ref a2, .int tk, .int ob, .int co, .ref a3, .int rc, .ref a4])), (a1, .inl (c1, 300, .inr (.inl ce))), (a2, .inl (c2, 16, .inl rg)), (a3, .inl (c3, 300, .inl re)), (a4, .inl (c4, 300, .inl np))] sz) := by
  refine Met.ofW (cc := cX0_moveDown) (maxL := 4) (ret := none) (by decide) rfl ?_
  intro p e s m args below meth c s₁ B hml hv
  obtain ⟨hargs, hsz, hP, hK, hD0⟩ := hv
  have hx := B.exec
  have hb := B.bytes
  have hr := B.returns
  have hts : ∀ w ∈ wb, w.before _ s = true := fun w h => atoms_spec (ws := wsX0_moveDown) B.pre w (List.mem_cons_of_mem _ h)
  have hown : s.vm.findClass RX0 = some m.cls := findClass_of_methodNamed B.named
  have hlocks := B.notSynchronized
  subst hsz
  have hD := hD0.self (sz := s.heap.size)
  generalize hAe : va_A [(h0, .inr (0, [.ref a1, .ref a2, .int tk, .int ob, .int co, .ref a3, .int rc, .ref a4])), (a1, .inl (c1, 300, .inr (.inl ce))), (a2, .inl (c2, 16, .inl rg)), (a3, .inl (c3, 300, .inl re)), (a4, .inl (c4, 300, .inl np))] s.heap.size = A at hD ⊢
  have hA : ∀ q : Nat, s.heap.size ≤ q → A q := fun q h => by rw [← hAe]; exact Or.inr h
  have hS : va_S A s.heap s.heap [] := va_S.rf
  generalize hQ9 : MQ below (va_Qv (fun u : Nat → Int64 => hp_V M (hp_L M) [] u) (fun u t => hw_B (dC, dI) vwCl [(c1, .long), (c2, .int), (c3, .int), (c4, .int)] A ((fun u : Nat → Int64 => [(h0, .inr (0, [.ref a1, .ref a2, .int tk, .int ob, .int co, .ref a3, .int rc, .ref a4])), (a1, .inl (c1, 300, .inr (.inl u))), (a2, .inl (c2, 16, .inl rg)), (a3, .inl (c3, 300, .inl re)), (a4, .inl (c4, 300, .inl np))]) u) t) A) args s 0 0 A = Q9
  have hl := lv_entry ([.ref h0]) (n := 4) (Nat.le_of_ble_eq_true rfl)
  rw [show entryFrame m args 4 = _ from (congrArg (fun z => entryFrame m z 4) hargs).trans (lg_entry_eq m [.ref h0] 4)]
  generalize (lg_sl ([.ref h0]) ++ List.replicate (4 - (lg_sl ([.ref h0])).length) Slot.unset).toArray = ls at hl ⊢
  have hl : lv_has ls 4 [(0, .ref h0)] := hl
  obtain ⟨H, hH⟩ : ∃ H, H = s.heap := ⟨_, rfl⟩
  rw [← hH] at hP
  have hS : va_S A s.heap H [] := by rw [hH]; exact hS
  rw [← hH]
  generalize ([] : List Loc) = locs at hS ⊢
  refine lv_iconst (v := 0) hx hb dX0_moveDown_0 (by decide) ?_
  refine hw_topi (y := nI (hp_t (hp_z M) [])) (nI_0.symm) ?_
  refine lv_istore_n hx hb dX0_moveDown_1 rfl hl (by decide) rfl (fun ls hl => ?_)
  have hl : lv_has ls 4 [(1, .int (nI (hp_t (hp_z M) []))), (0, .ref h0)] := hl
  refine lv_iconst (v := 0) hx hb dX0_moveDown_2 (by decide) ?_
  refine hw_topi (y := nI ([] : List Nat).length) (nI_0.symm) ?_
  refine lv_istore_n hx hb dX0_moveDown_3 rfl hl (by decide) rfl (fun ls hl => ?_)
  have hl : lv_has ls 4 [(2, .int (nI ([] : List Nat).length)), (1, .int (nI (hp_t (hp_z M) []))), (0, .ref h0)] := hl
  have loop : ∀ (n9 : Nat) (pre : List Nat) (suf : List Nat) (ce : Nat → Int64) (H : Heap) (locs : List Loc) (ls : Array Slot), suf.length < n9 → (hp_L M = pre ++ suf ∧ hp_V M pre suf ce) → va_P (dC, dI) vwCl [(h0, .inr (0, [.ref a1, .ref a2, .int tk, .int ob, .int co, .ref a3, .int rc, .ref a4])), (a1, .inl (c1, 300, .inr (.inl ce))), (a2, .inl (c2, 16, .inl rg)), (a3, .inl (c3, 300, .inl re)), (a4, .inl (c4, 300, .inl np))] H → va_D A [(h0, .inr (0, [.ref a1, .ref a2, .int tk, .int ob, .int co, .ref a3, .int rc, .ref a4])), (a1, .inl (c1, 300, .inr (.inl ce))), (a2, .inl (c2, 16, .inl rg)), (a3, .inl (c3, 300, .inl re)), (a4, .inl (c4, 300, .inl np))] → va_S A s.heap H locs → lv_has ls 4 [(2, .int (nI pre.length)), (1, .int (nI (hp_t (hp_z M) pre))), (0, .ref h0)] → W p l e (headSpec wsX0_moveDown ({ frames := 2, cells := 0, slots := 0, locals := 60 })).room s m args below meth c H locs 0 0 Q9 (F0 m 4 ls []) := by
    intro n9
    induction n9 with
    | zero => intro pre suf ce H locs ls hm; exact absurd hm (Nat.not_lt_zero _)
    | succ n9 ih =>
      intro pre suf ce H locs ls hm hI hP hD hS hl
      refine lv_iload_n hx hb dX0_moveDown_4 rfl (lv_at hl 0 rfl) ?_
      refine lv_aload_n hx hb dX0_moveDown_5 rfl (lv_at hl 2 rfl) ?_
      refine va_get (D := (dC, dI)) (ci := 0) (v := .int ob) (C := RX0) (T := TX0) (N := 8) hx hb hts inX0 hown hK hP 0 rfl rfl 3 (by decide) (hts _ bw_fl_X0_21) (fun _ h9 => h9) rfl dX0_moveDown_6 ?_
      refine lv_icmp_ge hx hb dX0_moveDown_9 (tgt := 57) (by decide) (fun hc => ?_) (fun hc => ?_)
      · have hlen := congrArg List.length hI.1
        rw [List.length_append] at hlen
        have hL3 := hp_L_len hW
        rw [hob] at hc
        have hs : suf = [] := List.length_eq_zero_iff.mp (by have h1 := (nI_leI (by omega) (by omega)).mp hc; omega)
        subst hs
        have hpre : hp_L M = pre := by rw [hI.1, List.append_nil]
        subst hQ9
        exact W.vret hx hb hr (fun t ht hWm => ⟨⟨ce, rfl, by rw [hpre]; exact hI.2, by rw [ht]; exact hP, va_K.moved hWm.alike hK, hD⟩, hS.F ht⟩) hS.2.2 dX0_moveDown_57
      · have hlen := congrArg List.length hI.1
        rw [List.length_append] at hlen
        have hL3 := hp_L_len hW
        rw [hob] at hc
        have hs : 0 < suf.length := Nat.pos_of_ne_zero (fun h9 => hc ((nI_leI (by omega) (by omega)).mpr (by omega)))
        obtain ⟨o, suf2, rfl⟩ : ∃ o suf2, suf = o :: suf2 := by
          cases suf with
          | nil => exact absurd hs (Nat.lt_irrefl _)
          | cons o suf2 => exact ⟨o, suf2, rfl⟩
        have hpo := hp_old_at hW hI.1
        have ho : o ∈ hp_L M := by rw [hI.1]; simp
        have hlt := hp_pl_lt hW ho
        have hnb := hp_nb hW ho (hp_new_lt' hW o) (hN.1 o ho)
        rw [hpo] at hnb
        have hcell := hI.2.2 o List.mem_cons_self
        refine lv_aload_n hx hb dX0_moveDown_12 rfl (lv_at hl 2 rfl) ?_
        refine lv_iload_n hx hb dX0_moveDown_13 rfl (lv_at hl 1 rfl) ?_
        refine W.callR (W.runV (As := [.int (nI (hp_t (hp_z M) pre))]) (rest := []) ⟨hx, hb, hml, hown, hts⟩ (c_X0_sizeAt l dC dI h0 a1 a2 a3 a4 c1 c2 c3 c4 ce rg tk ob co re rc np _ (by omega)) (cwV 1 hts gw_X0_121 rfl rfl rfl ⟨rfl, by decide, by decide, by decide +kernel⟩ ⟨Nat.le_of_ble_eq_true rfl, Nat.le_of_ble_eq_true rfl⟩) ⟨hw_blind, va_recv (q0 := 0) (ci := 0) (q := (RX0, TX0, 8)) hK hP rfl rfl, hw_pay hP hK hD⟩ rfl rfl hl.1 rfl (lv_room (Nat.le_of_ble_eq_true rfl)) dX0_moveDown_14 ⟨by decide, by decide⟩) ?_
        refine W.eq (g2 := F0 m 17 ls [.int (1 + (ce (hp_t (hp_z M) pre)).toInt32 >>> ((2 : Int32) &&& 31))]) rfl ?_
        refine hw_topi (y := nI (1 + hp_z M o)) (by rw [← hpo]; exact hp_rsize hW ho hcell.1) ?_
        refine lv_istore_n hx hb dX0_moveDown_17 rfl hl (by decide) rfl (fun ls hl => ?_)
        have hl : lv_has ls 4 [(3, .int (nI (1 + hp_z M o))), (2, .int (nI pre.length)), (1, .int (nI (hp_t (hp_z M) pre))), (0, .ref h0)] := hl
        refine lv_aload_n hx hb dX0_moveDown_18 rfl (lv_at hl 3 rfl) ?_
        refine va_get (D := (dC, dI)) (ci := 0) (v := .ref a4) (C := RX0) (T := TX0) (N := 8) hx hb hts inX0 hown hK hP 0 rfl rfl 7 (by decide) (hts _ bw_fl_X0_33) (fun _ h9 => h9) rfl dX0_moveDown_19 ?_
        refine lv_iload_n hx hb dX0_moveDown_22 rfl (lv_at hl 2 rfl) ?_
        refine hw_iald (j := hp_t (hp_z M) pre) hx hb hK hP 4 3 rfl rfl (rfl) (by omega) (by decide) dX0_moveDown_23 ?_
        refine lv_iconst (v := (-1)) hx hb dX0_moveDown_24 (by decide) ?_
        refine lv_icmp_eq hx hb dX0_moveDown_25 (tgt := 47) (by decide) (fun hc => ?_) (fun hc => ?_)
        · have hbo := hnb.mp hc
          refine lv_iload_n hx hb dX0_moveDown_47 rfl (lv_at hl 2 rfl) ?_
          refine lv_iload_n hx hb dX0_moveDown_48 rfl (lv_at hl 0 rfl) ?_
          refine lv_iadd hx hb dX0_moveDown_49 ?_
          refine hw_topi (y := nI (hp_t (hp_z M) (pre ++ [o]))) (by rw [hp_t_snoc]; exact nI_add _ _) ?_
          refine lv_istore_n hx hb dX0_moveDown_50 rfl hl (by decide) rfl (fun ls hl => ?_)
          have hl : lv_has ls 4 [(1, .int (nI (hp_t (hp_z M) (pre ++ [o])))), (3, .int (nI (1 + hp_z M o))), (2, .int (nI pre.length)), (0, .ref h0)] := hl
          refine lv_iinc (k := 2) (v := nI (pre ++ [o]).length) hx hb dX0_moveDown_51 hl rfl (by rw [List.length_append]; exact nI_1 _) (by decide) rfl (fun ls hl => ?_)
          have hl : lv_has ls 4 [(2, .int (nI (pre ++ [o]).length)), (1, .int (nI (hp_t (hp_z M) (pre ++ [o])))), (3, .int (nI (1 + hp_z M o))), (0, .ref h0)] := hl
          refine lv_goto hx hb dX0_moveDown_54 (tgt := 4) (by decide) ?_
          exact ih (pre ++ [o]) suf2 ce H locs ls (by simp only [List.length_cons] at hm; omega) (⟨by rw [hI.1, List.append_assoc]; rfl, hp_V_f hI.2 hbo⟩) hP hD hS (lv_sub hl [0, 1, 3] rfl)
        · have hbo : hp_b M o = true := Classical.byContradiction fun h9 => hc (hnb.mpr h9)
          have hnew := hp_new_lt hW hbo
          have hnp : np (hp_t (hp_z M) pre) = nI (hp_pl (hp_col M) o) := by rw [← hpo, hN.1 o ho, if_pos hbo]; rfl
          refine lv_aload_n hx hb dX0_moveDown_28 rfl (lv_at hl 3 rfl) ?_
          refine va_get (D := (dC, dI)) (ci := 0) (v := .ref a1) (C := RX0) (T := TX0) (N := 8) hx hb hts inX0 hown hK hP 0 rfl rfl 0 (by decide) (hts _ bw_fl_X0_9) (fun _ h9 => h9) rfl dX0_moveDown_29 ?_
          refine lv_iload_n hx hb dX0_moveDown_32 rfl (lv_at hl 2 rfl) ?_
          refine lv_aload_n hx hb dX0_moveDown_33 rfl (lv_at hl 3 rfl) ?_
          refine va_get (D := (dC, dI)) (ci := 0) (v := .ref a1) (C := RX0) (T := TX0) (N := 8) hx hb hts inX0 hown hK hP 0 rfl rfl 0 (by decide) (hts _ bw_fl_X0_9) (fun _ h9 => h9) rfl dX0_moveDown_34 ?_
          refine lv_aload_n hx hb dX0_moveDown_37 rfl (lv_at hl 3 rfl) ?_
          refine va_get (D := (dC, dI)) (ci := 0) (v := .ref a4) (C := RX0) (T := TX0) (N := 8) hx hb hts inX0 hown hK hP 0 rfl rfl 7 (by decide) (hts _ bw_fl_X0_33) (fun _ h9 => h9) rfl dX0_moveDown_38 ?_
          refine lv_iload_n hx hb dX0_moveDown_41 rfl (lv_at hl 2 rfl) ?_
          refine hw_iald (j := hp_t (hp_z M) pre) hx hb hK hP 4 3 rfl rfl (rfl) (by omega) (by decide) dX0_moveDown_42 ?_
          refine hw_topi (y := nI (hp_pl (hp_col M) o)) (hnp) ?_
          refine lv_iload_n hx hb dX0_moveDown_43 rfl (lv_at hl 0 rfl) ?_
          refine va_copyl (own := RX0) hx hb (hml.trans hl.1.symm) hown (hts _ bw_ml_X0_130) (hts _ bw_na_arraycopyName) (hts _ bw_st_arraycopyName) (hts _ bw_in_java_lang_System) hK hP hD hS 1 1 0 0 (ty := .long) rfl rfl rfl rfl rfl (nI_pos (by omega)) (nI_pos (by omega)) (nI_pos (by omega)) (by rw [nI_clamp (by omega), nI_clamp (by omega)]; omega) (by rw [nI_clamp (by omega), nI_clamp (by omega)]; omega) (fun i hi => rfl) (by decide) (by decide) dX0_moveDown_44 (fun H locs hP hD hS => ?_)
          rw [nI_clamp (by omega), nI_clamp (by omega), nI_clamp (by omega), ← hpo] at hP hD
          have hP : va_P (dC, dI) vwCl [(h0, .inr (0, [.ref a1, .ref a2, .int tk, .int ob, .int co, .ref a3, .int rc, .ref a4])), (a1, .inl (c1, 300, .inr (.inl (va_cpy ce ce (hp_pl M o) (hp_pl (hp_col M) o) (1 + hp_z M o))))), (a2, .inl (c2, 16, .inl rg)), (a3, .inl (c3, 300, .inl re)), (a4, .inl (c4, 300, .inl np))] H := hP
          have hD : va_D A [(h0, .inr (0, [.ref a1, .ref a2, .int tk, .int ob, .int co, .ref a3, .int rc, .ref a4])), (a1, .inl (c1, 300, .inr (.inl (va_cpy ce ce (hp_pl M o) (hp_pl (hp_col M) o) (1 + hp_z M o))))), (a2, .inl (c2, 16, .inl rg)), (a3, .inl (c3, 300, .inl re)), (a4, .inl (c4, 300, .inl np))] := hD
          refine lv_iload_n hx hb dX0_moveDown_47 rfl (lv_at hl 2 rfl) ?_
          refine lv_iload_n hx hb dX0_moveDown_48 rfl (lv_at hl 0 rfl) ?_
          refine lv_iadd hx hb dX0_moveDown_49 ?_
          refine hw_topi (y := nI (hp_t (hp_z M) (pre ++ [o]))) (by rw [hp_t_snoc]; exact nI_add _ _) ?_
          refine lv_istore_n hx hb dX0_moveDown_50 rfl hl (by decide) rfl (fun ls hl => ?_)
          have hl : lv_has ls 4 [(1, .int (nI (hp_t (hp_z M) (pre ++ [o])))), (3, .int (nI (1 + hp_z M o))), (2, .int (nI pre.length)), (0, .ref h0)] := hl
          refine lv_iinc (k := 2) (v := nI (pre ++ [o]).length) hx hb dX0_moveDown_51 hl rfl (by rw [List.length_append]; exact nI_1 _) (by decide) rfl (fun ls hl => ?_)
          have hl : lv_has ls 4 [(2, .int (nI (pre ++ [o]).length)), (1, .int (nI (hp_t (hp_z M) (pre ++ [o])))), (3, .int (nI (1 + hp_z M o))), (0, .ref h0)] := hl
          refine lv_goto hx hb dX0_moveDown_54 (tgt := 4) (by decide) ?_
          exact ih (pre ++ [o]) suf2 (va_cpy ce ce (hp_pl M o) (hp_pl (hp_col M) o) (1 + hp_z M o)) H locs ls (by simp only [List.length_cons] at hm; omega) (⟨by rw [hI.1, List.append_assoc]; rfl, hp_V_t hW hI.1 hI.2 hbo⟩) hP hD hS (lv_sub hl [0, 1, 3] rfl)
  exact loop _ ([]) (hp_L M) ce H locs ls (Nat.lt_succ_self _) (⟨rfl, hV⟩) hP hD hS (lv_sub hl [0, 1, 2] rfl)

set_option maxHeartbeats 4000000 in
set_option maxRecDepth 100000 in
/-- pressTogether() -/
theorem c_X0_pressTogether (l : Launch) (dC : Nat → ClassId) (dI : Nat → Nat → Nat) (h0 a1 a2 a3 a4 : Nat) (c1 c2 c3 c4 : ClassId) (ce : Nat → Int64) (rg : Nat → Int32) (tk ob co : Int32) (re : Nat → Int32) (rc : Int32) (np : Nat → Int32) (sz : Nat) (M : hp_S) (hW : hp_W M) (hC : hp_C M ce rg tk ob co) : Met l yX0_pressTogether wsX0_pressTogether ({ frames := 4, cells := 0, slots := 0, locals := 90 }) (va_Pc [.ref h0] (hw_pre (dC, dI) vwCl [(c1, .long), (c2, .int), (c3, .int), (c4, .int)] [(h0, .inr (0, [.ref a1, .ref a2, .int tk, .int ob, .int co, .ref a3, .int rc, .ref a4])), (a1, .inl (c1, 300, .inr (.inl ce))), (a2, .inl (c2, 16, .inl rg)), (a3, .inl (c3, 300, .inl re)), (a4, .inl (c4, 300, .inl np))] sz)) (va_Qv (fun u : (Nat → Int64) × (Nat → Int32) × Int32 × Int32 × Int32 × (Nat → Int32) × Int32 × (Nat → Int32) => hp_C (hp_col M) u.1 u.2.1 u.2.2.1 u.2.2.2.1 u.2.2.2.2.1) (fun u t => hw_B (dC, dI) vwCl [(c1, .long), (c2, .int), (c3, .int), (c4, .int)] (va_A [(h0, .inr (0, [.ref a1, .ref a2, .int tk, .int ob, .int co, .ref a3, .int rc, .ref a4])), (a1, .inl (c1, 300, .inr (.inl ce))), (a2, .inl (c2, 16, .inl rg)), (a3, .inl (c3, 300, .inl re)), (a4, .inl (c4, 300, .inl np))] sz) ((fun u : (Nat → Int64) × (Nat → Int32) × Int32 × Int32 × Int32 × (Nat → Int32) × Int32 × (Nat → Int32) => [(h0, .inr (0, [.ref a1, .ref a2, .int u.2.2.1, .int u.2.2.2.1, .int u.2.2.2.2.1, .ref a3, .int u.2.2.2.2.2.2.1, .ref a4])), (a1, .inl (c1, 300, .inr (.inl u.1))), (a2, .inl (c2, 16, .inl u.2.1)), (a3, .inl (c3, 300, .inl u.2.2.2.2.2.1)), (a4, .inl (c4, 300, .inl u.2.2.2.2.2.2.2))]) u) t) (va_A [(h0, .inr (0, [.ref a1, .ref a2, .int tk, .int ob, .int co, .ref a3, .int rc, .ref a4])), (a1, .inl (c1, 300, .inr (.inl ce))), (a2, .inl (c2, 16, .inl rg)), (a3, .inl (c3, 300, .inl re)), (a4, .inl (c4, 300, .inl np))] sz)) 0 0 (va_A [(h0, .inr (0, [.ref a1, .ref a2, .int tk, .int ob, .int co, .ref a3, .int rc, .ref a4])), (a1, .inl (c1, 300, .inr (.inl ce))), (a2, .inl (c2, 16, .inl rg)), (a3, .inl (c3, 300, .inl re)), (a4, .inl (c4, 300, .inl np))] sz) := by
  refine Met.ofW (cc := cX0_pressTogether) (maxL := 2) (ret := none) (by decide) rfl ?_
  intro p e s m args below meth c s₁ B hml hv
  obtain ⟨hargs, hsz, hP, hK, hD0⟩ := hv
  have hx := B.exec
  have hb := B.bytes
  have hr := B.returns
  have hts : ∀ w ∈ wb, w.before _ s = true := fun w h => atoms_spec (ws := wsX0_pressTogether) B.pre w (List.mem_cons_of_mem _ h)
  have hown : s.vm.findClass RX0 = some m.cls := findClass_of_methodNamed B.named
  have hlocks := B.notSynchronized
  subst hsz
  have hD := hD0.self (sz := s.heap.size)
  generalize hAe : va_A [(h0, .inr (0, [.ref a1, .ref a2, .int tk, .int ob, .int co, .ref a3, .int rc, .ref a4])), (a1, .inl (c1, 300, .inr (.inl ce))), (a2, .inl (c2, 16, .inl rg)), (a3, .inl (c3, 300, .inl re)), (a4, .inl (c4, 300, .inl np))] s.heap.size = A at hD ⊢
  have hA : ∀ q : Nat, s.heap.size ≤ q → A q := fun q h => by rw [← hAe]; exact Or.inr h
  have hS : va_S A s.heap s.heap [] := va_S.rf
  generalize hQ9 : MQ below (va_Qv (fun u : (Nat → Int64) × (Nat → Int32) × Int32 × Int32 × Int32 × (Nat → Int32) × Int32 × (Nat → Int32) => hp_C (hp_col M) u.1 u.2.1 u.2.2.1 u.2.2.2.1 u.2.2.2.2.1) (fun u t => hw_B (dC, dI) vwCl [(c1, .long), (c2, .int), (c3, .int), (c4, .int)] A ((fun u : (Nat → Int64) × (Nat → Int32) × Int32 × Int32 × Int32 × (Nat → Int32) × Int32 × (Nat → Int32) => [(h0, .inr (0, [.ref a1, .ref a2, .int u.2.2.1, .int u.2.2.2.1, .int u.2.2.2.2.1, .ref a3, .int u.2.2.2.2.2.2.1, .ref a4])), (a1, .inl (c1, 300, .inr (.inl u.1))), (a2, .inl (c2, 16, .inl u.2.1)), (a3, .inl (c3, 300, .inl u.2.2.2.2.2.1)), (a4, .inl (c4, 300, .inl u.2.2.2.2.2.2.2))]) u) t) A) args s 0 0 A = Q9
  have hl := lv_entry ([.ref h0]) (n := 2) (Nat.le_of_ble_eq_true rfl)
  rw [show entryFrame m args 2 = _ from (congrArg (fun z => entryFrame m z 2) hargs).trans (lg_entry_eq m [.ref h0] 2)]
  generalize (lg_sl ([.ref h0]) ++ List.replicate (2 - (lg_sl ([.ref h0])).length) Slot.unset).toArray = ls at hl ⊢
  have hl : lv_has ls 2 [(0, .ref h0)] := hl
  obtain ⟨H, hH⟩ : ∃ H, H = s.heap := ⟨_, rfl⟩
  rw [← hH] at hP
  have hS : va_S A s.heap H [] := by rw [hH]; exact hS
  rw [← hH]
  generalize ([] : List Loc) = locs at hS ⊢
  refine lv_aload_n hx hb dX0_pressTogether_0 rfl (lv_at hl 0 rfl) ?_
  refine lv_dup hx hb dX0_pressTogether_1 rfl ?_
  refine va_get (D := (dC, dI)) (ci := 0) (v := .int co) (C := RX0) (T := TX0) (N := 8) hx hb hts inX0 hown hK hP 0 rfl rfl 4 (by decide) (hts _ bw_fl_X0_24) (fun _ h9 => h9) rfl dX0_pressTogether_2 ?_
  refine lv_iconst (v := 1) hx hb dX0_pressTogether_5 (by decide) ?_
  refine lv_iadd hx hb dX0_pressTogether_6 ?_
  refine va_put (D := (dC, dI)) (ci := 0) (v := .int (co + 1)) (ty := .int) (C := RX0) (T := TX0) (N := 8) hx hb hts inX0 tyX0 tyX0_ok nmX0 hown hK hP hD hS 0 rfl rfl 4 (by decide) (hts _ bw_fl_X0_24) (fun _ h9 => h9) rfl (by decide +kernel) rfl rfl (Nat.le_of_ble_eq_true rfl) dX0_pressTogether_7 (fun H locs hP hD hS => ?_)
  have hP : va_P (dC, dI) vwCl [(h0, .inr (0, [.ref a1, .ref a2, .int tk, .int ob, .int (co + 1), .ref a3, .int rc, .ref a4])), (a1, .inl (c1, 300, .inr (.inl ce))), (a2, .inl (c2, 16, .inl rg)), (a3, .inl (c3, 300, .inl re)), (a4, .inl (c4, 300, .inl np))] H := hP
  have hD : va_D A [(h0, .inr (0, [.ref a1, .ref a2, .int tk, .int ob, .int (co + 1), .ref a3, .int rc, .ref a4])), (a1, .inl (c1, 300, .inr (.inl ce))), (a2, .inl (c2, 16, .inl rg)), (a3, .inl (c3, 300, .inl re)), (a4, .inl (c4, 300, .inl np))] := hD
  refine lv_aload_n hx hb dX0_pressTogether_10 rfl (lv_at hl 0 rfl) ?_
  refine hw_callv (va_runV (As := []) (rest := []) ⟨hx, hb, hml, hown, hts⟩ (c_X0_findReached l dC dI h0 a1 a2 a3 a4 c1 c2 c3 c4 ce rg tk ob (co + 1) re rc np _ M hW co hC) (cwV 0 hts gw_X0_99 rfl rfl rfl ⟨rfl, by decide, by decide, by decide +kernel⟩ ⟨Nat.le_of_ble_eq_true rfl, Nat.le_of_ble_eq_true rfl⟩) ⟨hw_blind, va_recv (q0 := 0) (ci := 0) (q := (RX0, TX0, 8)) hK hP rfl rfl, hw_pay hP hK hD⟩ rfl rfl hl.1 rfl (lv_room (Nat.le_of_ble_eq_true rfl)) dX0_pressTogether_11 ⟨by decide, by decide⟩) hD hS hA (fun u9 H locs hw hP hD hS => ?_)
  obtain ⟨re, rc, np⟩ := u9
  have hP : va_P (dC, dI) vwCl [(h0, .inr (0, [.ref a1, .ref a2, .int tk, .int ob, .int (co + 1), .ref a3, .int rc, .ref a4])), (a1, .inl (c1, 300, .inr (.inl ce))), (a2, .inl (c2, 16, .inl rg)), (a3, .inl (c3, 300, .inl re)), (a4, .inl (c4, 300, .inl np))] H := hP
  have hD : va_D A [(h0, .inr (0, [.ref a1, .ref a2, .int tk, .int ob, .int (co + 1), .ref a3, .int rc, .ref a4])), (a1, .inl (c1, 300, .inr (.inl ce))), (a2, .inl (c2, 16, .inl rg)), (a3, .inl (c3, 300, .inl re)), (a4, .inl (c4, 300, .inl np))] := hD
  obtain ⟨R, hI, hb9⟩ := hw
  refine lv_aload_n hx hb dX0_pressTogether_14 rfl (lv_at hl 0 rfl) ?_
  refine hw_calli (va_runV (As := []) (rest := []) ⟨hx, hb, hml, hown, hts⟩ (c_X0_planNewPlaces l dC dI h0 a1 a2 a3 a4 c1 c2 c3 c4 ce rg tk ob (co + 1) re rc np _ M hW hC.2.1 (fun o ho => (hC.2.2.2.2 o ho).1) (hp_N_0 hI hb9)) (cwV 0 hts gw_X0_102 rfl rfl rfl ⟨rfl, by decide, by decide, by decide +kernel⟩ ⟨Nat.le_of_ble_eq_true rfl, Nat.le_of_ble_eq_true rfl⟩) ⟨hw_blind, va_recv (q0 := 0) (ci := 0) (q := (RX0, TX0, 8)) hK hP rfl rfl, hw_pay hP hK hD⟩ rfl rfl hl.1 rfl (lv_room (Nat.le_of_ble_eq_true rfl)) dX0_pressTogether_15 ⟨by decide, by decide⟩) hD hS hA (fun r9 u9 H locs hw hP hD hS => ?_)
  obtain ⟨np1, hnp1⟩ : ∃ z, z = u9 := ⟨_, rfl⟩
  rw [← hnp1] at hP hD hw
  have hP : va_P (dC, dI) vwCl [(h0, .inr (0, [.ref a1, .ref a2, .int tk, .int ob, .int (co + 1), .ref a3, .int rc, .ref a4])), (a1, .inl (c1, 300, .inr (.inl ce))), (a2, .inl (c2, 16, .inl rg)), (a3, .inl (c3, 300, .inl re)), (a4, .inl (c4, 300, .inl np1))] H := hP
  have hD : va_D A [(h0, .inr (0, [.ref a1, .ref a2, .int tk, .int ob, .int (co + 1), .ref a3, .int rc, .ref a4])), (a1, .inl (c1, 300, .inr (.inl ce))), (a2, .inl (c2, 16, .inl rg)), (a3, .inl (c3, 300, .inl re)), (a4, .inl (c4, 300, .inl np1))] := hD
  obtain ⟨hr9, hN⟩ := hw
  refine hw_topi (y := nI (hp_t (hp_z M) (hp_L2 M))) (hr9) ?_
  refine lv_istore_n hx hb dX0_pressTogether_18 rfl hl (by decide) rfl (fun ls hl => ?_)
  have hl : lv_has ls 2 [(1, .int (nI (hp_t (hp_z M) (hp_L2 M)))), (0, .ref h0)] := hl
  refine lv_aload_n hx hb dX0_pressTogether_19 rfl (lv_at hl 1 rfl) ?_
  refine hw_callv (va_runV (As := []) (rest := []) ⟨hx, hb, hml, hown, hts⟩ (c_X0_redirectRegisters l dC dI h0 a1 a2 a3 a4 c1 c2 c3 c4 ce rg tk ob (co + 1) re rc np1 _ M hW hC.2.2.2.1 hN) (cwV 0 hts gw_X0_106 rfl rfl rfl ⟨rfl, by decide, by decide, by decide +kernel⟩ ⟨Nat.le_of_ble_eq_true rfl, Nat.le_of_ble_eq_true rfl⟩) ⟨hw_blind, va_recv (q0 := 0) (ci := 0) (q := (RX0, TX0, 8)) hK hP rfl rfl, hw_pay hP hK hD⟩ rfl rfl hl.1 rfl (lv_room (Nat.le_of_ble_eq_true rfl)) dX0_pressTogether_20 ⟨by decide, by decide⟩) hD hS hA (fun u9 H locs hw hP hD hS => ?_)
  obtain ⟨rg1, hrg1⟩ : ∃ z, z = u9 := ⟨_, rfl⟩
  rw [← hrg1] at hP hD hw
  have hP : va_P (dC, dI) vwCl [(h0, .inr (0, [.ref a1, .ref a2, .int tk, .int ob, .int (co + 1), .ref a3, .int rc, .ref a4])), (a1, .inl (c1, 300, .inr (.inl ce))), (a2, .inl (c2, 16, .inl rg1)), (a3, .inl (c3, 300, .inl re)), (a4, .inl (c4, 300, .inl np1))] H := hP
  have hD : va_D A [(h0, .inr (0, [.ref a1, .ref a2, .int tk, .int ob, .int (co + 1), .ref a3, .int rc, .ref a4])), (a1, .inl (c1, 300, .inr (.inl ce))), (a2, .inl (c2, 16, .inl rg1)), (a3, .inl (c3, 300, .inl re)), (a4, .inl (c4, 300, .inl np1))] := hD
  have hrg := hw
  refine lv_aload_n hx hb dX0_pressTogether_23 rfl (lv_at hl 1 rfl) ?_
  refine hw_callv (va_runV (As := []) (rest := []) ⟨hx, hb, hml, hown, hts⟩ (c_X0_redirectContents l dC dI h0 a1 a2 a3 a4 c1 c2 c3 c4 ce rg1 tk ob (co + 1) re rc np1 _ M hW R hI.2.1 hb9 hI.1 hI.2.2.2.1 hN (hp_X_0 hC)) (cwV 0 hts gw_X0_109 rfl rfl rfl ⟨rfl, by decide, by decide, by decide +kernel⟩ ⟨Nat.le_of_ble_eq_true rfl, Nat.le_of_ble_eq_true rfl⟩) ⟨hw_blind, va_recv (q0 := 0) (ci := 0) (q := (RX0, TX0, 8)) hK hP rfl rfl, hw_pay hP hK hD⟩ rfl rfl hl.1 rfl (lv_room (Nat.le_of_ble_eq_true rfl)) dX0_pressTogether_24 ⟨by decide, by decide⟩) hD hS hA (fun u9 H locs hw hP hD hS => ?_)
  obtain ⟨ce1, hce1⟩ : ∃ z, z = u9 := ⟨_, rfl⟩
  rw [← hce1] at hP hD hw
  have hP : va_P (dC, dI) vwCl [(h0, .inr (0, [.ref a1, .ref a2, .int tk, .int ob, .int (co + 1), .ref a3, .int rc, .ref a4])), (a1, .inl (c1, 300, .inr (.inl ce1))), (a2, .inl (c2, 16, .inl rg1)), (a3, .inl (c3, 300, .inl re)), (a4, .inl (c4, 300, .inl np1))] H := hP
  have hD : va_D A [(h0, .inr (0, [.ref a1, .ref a2, .int tk, .int ob, .int (co + 1), .ref a3, .int rc, .ref a4])), (a1, .inl (c1, 300, .inr (.inl ce1))), (a2, .inl (c2, 16, .inl rg1)), (a3, .inl (c3, 300, .inl re)), (a4, .inl (c4, 300, .inl np1))] := hD
  have hX := hw
  refine lv_aload_n hx hb dX0_pressTogether_27 rfl (lv_at hl 1 rfl) ?_
  refine hw_callv (va_runV (As := []) (rest := []) ⟨hx, hb, hml, hown, hts⟩ (c_X0_moveDown l dC dI h0 a1 a2 a3 a4 c1 c2 c3 c4 ce1 rg1 tk ob (co + 1) re rc np1 _ M hW hC.2.1 hN (hp_V_0 hX hb9)) (cwV 0 hts gw_X0_112 rfl rfl rfl ⟨rfl, by decide, by decide, by decide +kernel⟩ ⟨Nat.le_of_ble_eq_true rfl, Nat.le_of_ble_eq_true rfl⟩) ⟨hw_blind, va_recv (q0 := 0) (ci := 0) (q := (RX0, TX0, 8)) hK hP rfl rfl, hw_pay hP hK hD⟩ rfl rfl hl.1 rfl (lv_room (Nat.le_of_ble_eq_true rfl)) dX0_pressTogether_28 ⟨by decide, by decide⟩) hD hS hA (fun u9 H locs hw hP hD hS => ?_)
  obtain ⟨ce1, hce1⟩ : ∃ z, z = u9 := ⟨_, rfl⟩
  rw [← hce1] at hP hD hw
  have hP : va_P (dC, dI) vwCl [(h0, .inr (0, [.ref a1, .ref a2, .int tk, .int ob, .int (co + 1), .ref a3, .int rc, .ref a4])), (a1, .inl (c1, 300, .inr (.inl ce1))), (a2, .inl (c2, 16, .inl rg1)), (a3, .inl (c3, 300, .inl re)), (a4, .inl (c4, 300, .inl np1))] H := hP
  have hD : va_D A [(h0, .inr (0, [.ref a1, .ref a2, .int tk, .int ob, .int (co + 1), .ref a3, .int rc, .ref a4])), (a1, .inl (c1, 300, .inr (.inl ce1))), (a2, .inl (c2, 16, .inl rg1)), (a3, .inl (c3, 300, .inl re)), (a4, .inl (c4, 300, .inl np1))] := hD
  refine lv_aload_n hx hb dX0_pressTogether_31 rfl (lv_at hl 1 rfl) ?_
  refine lv_iload_n hx hb dX0_pressTogether_32 rfl (lv_at hl 0 rfl) ?_
  refine va_put (D := (dC, dI)) (ci := 0) (v := .int (nI (hp_t (hp_z M) (hp_L2 M)))) (ty := .int) (C := RX0) (T := TX0) (N := 8) hx hb hts inX0 tyX0 tyX0_ok nmX0 hown hK hP hD hS 0 rfl rfl 2 (by decide) (hts _ bw_fl_X0_17) (fun _ h9 => h9) rfl (by decide +kernel) rfl rfl (Nat.le_of_ble_eq_true rfl) dX0_pressTogether_33 (fun H locs hP hD hS => ?_)
  have hP : va_P (dC, dI) vwCl [(h0, .inr (0, [.ref a1, .ref a2, .int (nI (hp_t (hp_z M) (hp_L2 M))), .int ob, .int (co + 1), .ref a3, .int rc, .ref a4])), (a1, .inl (c1, 300, .inr (.inl ce1))), (a2, .inl (c2, 16, .inl rg1)), (a3, .inl (c3, 300, .inl re)), (a4, .inl (c4, 300, .inl np1))] H := hP
  have hD : va_D A [(h0, .inr (0, [.ref a1, .ref a2, .int (nI (hp_t (hp_z M) (hp_L2 M))), .int ob, .int (co + 1), .ref a3, .int rc, .ref a4])), (a1, .inl (c1, 300, .inr (.inl ce1))), (a2, .inl (c2, 16, .inl rg1)), (a3, .inl (c3, 300, .inl re)), (a4, .inl (c4, 300, .inl np1))] := hD
  refine lv_aload_n hx hb dX0_pressTogether_36 rfl (lv_at hl 1 rfl) ?_
  refine lv_aload_n hx hb dX0_pressTogether_37 rfl (lv_at hl 1 rfl) ?_
  refine va_get (D := (dC, dI)) (ci := 0) (v := .int rc) (C := RX0) (T := TX0) (N := 8) hx hb hts inX0 hown hK hP 0 rfl rfl 6 (by decide) (hts _ bw_fl_X0_30) (fun _ h9 => h9) rfl dX0_pressTogether_38 ?_
  refine va_put (D := (dC, dI)) (ci := 0) (v := .int rc) (ty := .int) (C := RX0) (T := TX0) (N := 8) hx hb hts inX0 tyX0 tyX0_ok nmX0 hown hK hP hD hS 0 rfl rfl 3 (by decide) (hts _ bw_fl_X0_21) (fun _ h9 => h9) rfl (by decide +kernel) rfl rfl (Nat.le_of_ble_eq_true rfl) dX0_pressTogether_41 (fun H locs hP hD hS => ?_)
  have hP : va_P (dC, dI) vwCl [(h0, .inr (0, [.ref a1, .ref a2, .int (nI (hp_t (hp_z M) (hp_L2 M))), .int rc, .int (co + 1), .ref a3, .int rc, .ref a4])), (a1, .inl (c1, 300, .inr (.inl ce1))), (a2, .inl (c2, 16, .inl rg1)), (a3, .inl (c3, 300, .inl re)), (a4, .inl (c4, 300, .inl np1))] H := hP
  have hD : va_D A [(h0, .inr (0, [.ref a1, .ref a2, .int (nI (hp_t (hp_z M) (hp_L2 M))), .int rc, .int (co + 1), .ref a3, .int rc, .ref a4])), (a1, .inl (c1, 300, .inr (.inl ce1))), (a2, .inl (c2, 16, .inl rg1)), (a3, .inl (c3, 300, .inl re)), (a4, .inl (c4, 300, .inl np1))] := hD
  subst hQ9
  exact W.vret hx hb hr (fun t ht hWm => ⟨⟨(ce1, rg1, (nI (hp_t (hp_z M) (hp_L2 M))), rc, (co + 1), re, rc, np1), rfl, by have h9 := hp_C_col hW hI.2.1 hb9 hw hrg; rw [← hI.1, ← hC.2.2.1] at h9; exact h9, by rw [ht]; exact hP, va_K.moved hWm.alike hK, hD⟩, hS.F ht⟩) hS.2.2 dX0_pressTogether_44
end
section
/-! what a throw needs of the machine, and calls that throw -/
abbrev hz_A : String := "java/lang/IllegalArgumentException"
abbrev hz_I : String := "java/lang/IllegalStateException"
abbrev hz_N : String := "java/util/NoSuchElementException"
abbrev hz_up : List String := ["java/lang/RuntimeException", "java/lang/Exception"]
def hz_F (A : Nat → Prop) (U : State) (H : Heap) : Prop :=
  vx_Zq Bundle.tN "UNASSIGNED_STACK" Bundle.steD A U H ∧ vx_Zq Bundle.tN "SUPPRESSED_SENTINEL" Bundle.listD A U H ∧
  (va_Nw (.castable hz_A hz_A) U ∧ va_Nw (.castable hz_I hz_I) U ∧ va_Nw (.castable hz_N hz_N) U) ∧
  (va_Nw (.declares ⟨"java/lang/RuntimeException", "<init>", "(Ljava/lang/String;)V"⟩) U ∧ va_Nw (.declares ⟨"java/lang/Exception", "<init>", "(Ljava/lang/String;)V"⟩) U ∧ va_Nw (.declares ⟨"java/lang/Throwable", "<init>", "(Ljava/lang/String;)V"⟩) U) ∧
  (∃ q, vk_R RX0 78 "a number out of range" q U) ∧ (∃ q, vk_R RX0 83 "an object of another kind" q U) ∧ (∃ q, vk_R RX0 87 "null, where there must be an object" q U) ∧ ∃ q, vk_R RX0 96 "full" q U
theorem hz_F.warm {A : Nat → Prop} {s U : State} {H : Heap} (hW : s.WarmedH U.vm) (h : hz_F A s H) : hz_F A U H := by
  obtain ⟨h1, h2, ⟨k1, k2, k3⟩, ⟨d1, d2, d3⟩, ⟨q1, r1⟩, ⟨q2, r2⟩, ⟨q3, r3⟩, ⟨q4, r4⟩⟩ := h
  exact ⟨h1.moved hW.alike, h2.moved hW.alike, ⟨va_Nw.warmC hW k1, va_Nw.warmC hW k2, va_Nw.warmC hW k3⟩, ⟨va_Nw.warmD hW d1, va_Nw.warmD hW d2, va_Nw.warmD hW d3⟩, ⟨q1, r1.warm hW⟩, ⟨q2, r2.warm hW⟩, ⟨q3, r3.warm hW⟩, ⟨q4, r4.warm hW⟩⟩
theorem hz_F.kept {A : Nat → Prop} {U : State} {H H1 : Heap} (h : hz_F A U H) (hq : ∀ a : Nat, a < H.size → ¬ A a → H1[a]? = H[a]?) : hz_F A U H1 := ⟨h.1.kept hq, h.2.1.kept hq, h.2.2⟩
theorem hz_F.narrow {A B : Nat → Prop} {U : State} {H : Heap} (h : hz_F A U H) (hAB : ∀ q, B q → A q) : hz_F B U H := ⟨h.1.narrow hAB, h.2.1.narrow hAB, h.2.2⟩
def hx_pre (D : va_G) (cl : List vw_C) (tys : List (ClassId × FieldType)) (ws : va_W) (sz : Nat) (U : State) : Prop := U.heap.size = sz ∧ va_P D cl ws U.heap ∧ va_K D cl tys U ∧ va_D (fun _ => True) ws ∧ hz_F (va_A ws sz) U U.heap
theorem hx_blind {D : va_G} {cl : List vw_C} {tys : List (ClassId × FieldType)} {ws : va_W} {sz : Nat} {av : List Value} : FrameBlind (va_Pc av (hx_pre D cl tys ws sz)) := fun a U g mk q => by
  obtain ⟨q0, q1, qP, qK, qD, qZ⟩ := q
  exact ⟨q0, q1, qP, va_K.moved (u := U) (U := U.calling g mk a) (Vm.Alike.refl U.vm) qK, qD, hz_F.warm (s := U) (U := U.calling g mk a) (State.WarmedH.refl U) qZ⟩
theorem hx_pay {D : va_G} {cl : List vw_C} {tys : List (ClassId × FieldType)} {ws : va_W} {av : List Value} {A : Nat → Prop} {s : State} {H : Heap} {locs : List Loc} (hP : va_P D cl ws H) (hK : va_K D cl tys s) (hD : va_D A ws) (hS : va_S A s.heap H locs) (hA : ∀ q, s.heap.size ≤ q → A q) (hZ : hz_F A s s.heap) : ∀ U : State, U.heap = H → s.WarmedH U.vm → va_Pc av (hx_pre D cl tys ws H.size) av.toArray U :=
  fun U hU hW => ⟨rfl, by rw [hU], by rw [hU]; exact hP, va_K.moved hW.alike hK, hD.weaken (fun _ _ _ _ => trivial), by rw [hU]; exact ((hZ.kept hS.2.1).narrow (hw_sub hD hS hA)).warm hW⟩
theorem hx_P0 {D : va_G} {cl : List vw_C} {H : Heap} : va_P D cl [] H := fun k q h => by simp at h
theorem hx_D0 {A : Nat → Prop} : va_D A [] := ⟨fun i j p q h => by simp at h, fun k q h => by simp at h⟩
theorem hx_A0 {sz q : Nat} (h : va_A [] sz q) : sz ≤ q := by
  rcases h with ⟨k, e, h⟩ | h
  · simp at h
  · exact h
section HXT
variable {p : Program} {l : Launch} {e : Env} {R : Room} {s : State} {m : MethodId} {args : Array Value} {below : List Frame} {meth : Method} {c : Code} {H : Heap} {locs : List Loc} {cells slots : Nat} {Q : State → Prop}
variable {pc : Nat} {ls : Array Slot} {st0 rest : List Value} {D : va_G} {cl : List vw_C} {A : Nat → Prop} {a : Array Value} {tys : List (ClassId × FieldType)} {ws : va_W} {H0 : Heap} {mc ms : Nat}
/-- a call without a world that throws -/
theorem hx_throws {bad : String → Prop} (hr : vx_Run p l e R s m args below meth c H locs cells slots mc ms (F0 m pc ls st0) rest (fun _ _ _ => False) (vx_X (fun _ : Unit => True) (fun E _ _ => bad E) (va_A [] H.size)) (va_A [] H.size)) (hP : va_P D cl ws H) (hS : va_S A H0 H locs) (hA : ∀ q, H0.size ≤ q → A q)
    (kx : ∀ (E : String) (ce : Cell) (q9 : Addr) (H1 : Heap) (locs1 : List Loc), bad E → va_P D cl ws H1 → va_S A H0 H1 locs1 → H1[q9]? = some ce → ce.vm = .none → s.vm.findClass E = some ce.cls → vx_W p l e R s m args below meth c H1 locs1 (cells + mc) (slots + ms) Q (F0 m pc ls rest) q9) : W p l e R s m args below meth c H locs cells slots Q (F0 m pc ls st0) := by
  intro T hT X
  rcases hr T hT X with ⟨v, st₀, t, T', L, h0, X', hL, e1, e2, hF, st⟩ | ⟨q, st₀, t, T', L, E, ce, h0, X', hL, e1, e2, ⟨u, hp, hb, hF⟩, hce, hcv, hcl, st⟩
  · exact hF.elim
  · obtain ⟨k1, k2, k3⟩ := vx_keep h0 e1 hS (fun q h1 h2 => absurd (hx_A0 h2) (Nat.not_le_of_lt h1)) (fun q h => hA q (Nat.le_trans hS.1 (hx_A0 h))) hL hF
    obtain ⟨t2, a1, b1⟩ := kx E ce q T'.heap (locs ++ L) hb (hP.kept (fun k q hq => k2 q.1 (hP k q hq).lt (fun z => Nat.not_le_of_lt (hP k q hq).lt (hx_A0 z)))) k3 (by rw [e1]; exact hce) hcv hcl T' rfl X'
    exact ⟨t2, st.trans a1, b1⟩
/-- a call on the same world that throws -/
theorem hx_throwsW {SX : Type} {px : String → SX → Prop} {wx : SX → va_W} (hr : vx_Run p l e R s m args below meth c H locs cells slots mc ms (F0 m pc ls st0) rest (fun _ _ _ => False) (vx_X (fun _ : SX => True) (fun E u t => px E u ∧ hw_B D cl tys (va_A ws H.size) (wx u) t) (va_A ws H.size)) (va_A ws H.size)) (hD : va_D A ws) (hS : va_S A H0 H locs) (hA : ∀ q, H0.size ≤ q → A q)
    (kx : ∀ (E : String) (ce : Cell) (q9 : Addr) (u : SX) (H1 : Heap) (locs1 : List Loc), px E u → va_P D cl (wx u) H1 → va_D A (wx u) → va_S A H0 H1 locs1 → H1[q9]? = some ce → ce.vm = .none → s.vm.findClass E = some ce.cls → vx_W p l e R s m args below meth c H1 locs1 (cells + mc) (slots + ms) Q (F0 m pc ls rest) q9) : W p l e R s m args below meth c H locs cells slots Q (F0 m pc ls st0) := by
  have hF9 := hw_sub hD hS hA
  intro T hT X
  rcases hr T hT X with ⟨v, st₀, t, T', L, h0, X', hL, e1, e2, hF, st⟩ | ⟨q, st₀, t, T', L, E, ce, h0, X', hL, e1, e2, ⟨u, hp, hb, hF⟩, hce, hcv, hcl, st⟩
  · exact hF.elim
  · obtain ⟨k1, k2, k3⟩ := vx_keep h0 e1 hS (fun q _ h => hF9 q h) hF9 hL hF
    obtain ⟨t2, a1, b1⟩ := kx E ce q u T'.heap (locs ++ L) hb.1 (by rw [e1]; exact hb.2.1) (hb.2.2.2.weaken (fun _ _ _ h => hF9 _ h)) k3 (by rw [e1]; exact hce) hcv hcl T' rfl X'
    exact ⟨t2, st.trans a1, b1⟩
/-- a void call that reads alone -/
def hw_Qn : Array Value → State → Outcome → State → Prop := fun _ st o t => o = .returned none ∧ t.heap = st.heap
theorem hw_callN (hr : CallRun p l e R s m args below meth c H locs cells slots 0 0 (F0 m pc ls st0) rest (hw_Qn a) (fun _ => False)) (kk : W p l e R s m args below meth c H locs cells slots Q (F0 m (pc + 3) ls rest)) : W p l e R s m args below meth c H locs cells slots Q (F0 m pc ls st0) := by
  intro T hT X
  obtain ⟨v, st₀, t, T', L, h0, X', hL, e1, ⟨hv, hh⟩, st⟩ := hr T hT X
  cases hv
  obtain ⟨t2, a1, b1⟩ := kk T' (by rw [e1, hh, h0]) (Stand.forget X' (fun q h => (hL q h).elim))
  exact ⟨t2, st t2 a1, b1⟩
end HXT
theorem hz_in80 : ∀ w ∈ (vx_atS RX0 80 hz_A hz_up).filter goodWord, w ∈ lw_tbl := by decide +kernel
theorem hz_in98 : ∀ w ∈ (vx_atS RX0 98 hz_I hz_up).filter goodWord, w ∈ lw_tbl := by decide +kernel
theorem hz_at80 {args : Array Value} {s : State} {A : Nat → Prop} {H : Heap} (hts : ∀ w ∈ wb, w.before args s = true) (hZ : hz_F A s H) : ∀ w ∈ vx_atS RX0 80 hz_A hz_up, w.before args s = true :=
  vx_hat (B := [.castable hz_A hz_A, .declares ⟨"java/lang/RuntimeException", "<init>", "(Ljava/lang/String;)V"⟩, .declares ⟨"java/lang/Exception", "<init>", "(Ljava/lang/String;)V"⟩, .declares ⟨"java/lang/Throwable", "<init>", "(Ljava/lang/String;)V"⟩]) (fun w hw => hts w (wb_mem (hz_in80 w hw) (List.mem_filter.mp hw).2)) (by decide +kernel)
    (vx_c (va_Nw.use rfl hZ.2.2.1.1) (vx_c (va_Nw.use rfl hZ.2.2.2.1.1) (vx_c (va_Nw.use rfl hZ.2.2.2.1.2.1) (vx_c (va_Nw.use rfl hZ.2.2.2.1.2.2) vx_n))))
theorem hz_at98 {args : Array Value} {s : State} {A : Nat → Prop} {H : Heap} (hts : ∀ w ∈ wb, w.before args s = true) (hZ : hz_F A s H) : ∀ w ∈ vx_atS RX0 98 hz_I hz_up, w.before args s = true :=
  vx_hat (B := [.castable hz_I hz_I, .declares ⟨"java/lang/RuntimeException", "<init>", "(Ljava/lang/String;)V"⟩, .declares ⟨"java/lang/Exception", "<init>", "(Ljava/lang/String;)V"⟩, .declares ⟨"java/lang/Throwable", "<init>", "(Ljava/lang/String;)V"⟩]) (fun w hw => hts w (wb_mem (hz_in98 w hw) (List.mem_filter.mp hw).2)) (by decide +kernel)
    (vx_c (va_Nw.use rfl hZ.2.2.1.2.1) (vx_c (va_Nw.use rfl hZ.2.2.2.1.1) (vx_c (va_Nw.use rfl hZ.2.2.2.1.2.1) (vx_c (va_Nw.use rfl hZ.2.2.2.1.2.2) vx_n))))
end
section
section HZC
variable {p : Program} {l : Launch} {e : Env} {R : Room} {s : State} {m₀ : MethodId} {args : Array Value} {below : List Frame} {meth : Method} {c : Code} {W : State} {locs : List Loc} {cells slots : Nat}
def hz_own (own : String) (ic : Nat) (X Y : String) (names : List String) (idx : Nat) (bytes : ByteArray) : List Cond :=
  Bundle.throwableAtoms ++ Bundle.throwableSAtoms ++ (Bundle.passSAtoms X Y idx bytes ++ Bundle.chainSAtoms Y names) ++
  [.methodLink own ic (Bundle.initS X), .instantiable X 6, .castable X X, .selects X Bundle.tFill0 Bundle.tFill0, .selects X Bundle.tFill Bundle.tFill,
   .lays X Bundle.tN "cause" "Ljava/lang/Throwable;", .lays X Bundle.tN "stackTrace" Bundle.steD, .lays X Bundle.tN "suppressedExceptions" Bundle.listD, .lays X Bundle.tN "detailMessage" "Ljava/lang/String;",
   .isRef (.static Bundle.tN "UNASSIGNED_STACK" Bundle.steD), .isRef (.static Bundle.tN "SUPPRESSED_SENTINEL" Bundle.listD),
   .fieldLink Bundle.tN 198 Bundle.tN "backtrace" "Ljava/lang/Object;", .lays Bundle.tN Bundle.tN "backtrace" "Ljava/lang/Object;", .lays X Bundle.tN "backtrace" "Ljava/lang/Object;"]
set_option maxHeartbeats 2000000 in
theorem hz_ctor (X : Stand p l e R s m₀ args below meth c W locs cells slots) (hexec : p.tables.exec = Jvm.exec) (htr : e.platform.stackTraces = false) {own cls sup : String} {names : List String} {ic idx : Nat} {bytes : ByteArray}
    (b0 : decode bytes 0 = .ok (.aload_n 0, 1)) (b1 : decode bytes 1 = .ok (.aload_n 1, 1)) (b2 : decode bytes 2 = .ok (.invokespecial idx, 3)) (b5 : decode bytes 5 = .ok (.return_, 1)) (hsup : Bundle.fit sup = true)
    (hown : s.vm.findClass own = some m₀.cls) (hcls : Bundle.fit cls = true) (hnames : ∀ n ∈ names, Bundle.fit n = true)
    (h : ∀ a ∈ hz_own own ic cls sup names idx bytes, a.before args s = true)
    (hlocs : ∀ x ∈ locs, ∀ cell, s.heap[x.base]? = some cell → cell.vm.isStatics = false)
    {a : Addr} {cX : ClassId} {kX : Class} (hfoundX : s.vm.findClass cls = some cX) (hkX : s.vm.classes[cX]? = some kX) (hcell : W.heap[a]? = some (freshCell cX kX)) (hnew : s.heap.size ≤ a)
    {msg : Value} (hmsg : msg.isRef = true)
    {g : JFrame} (hg : g.method = m₀) (hsize : g.locals.size = c.maxLocals) (hlocked : g.locked = none) (hentered : g.entered = []) {rest : List Value} (hstack : g.stack = msg :: .ref a :: .ref a :: rest)
    (hd6 : decode c.code g.pc = .ok (.invokespecial ic, 3)) (hd9 : decode c.code (g.pc + 3) = .ok (.athrow, 1)) (hout : ∀ x ∈ c.exceptionTable.toList, covers x (g.pc + 3) = false)
    (hRframes : (names.length + 1) + 3 < R.frames) (hRlocals : 2 * g.monitorRoom + ((Value.ref a :: rest).map fun v => v.category).sum + (13 * ((names.length + 1) + 1) + 42) ≤ R.locals) (hlocks : meth.locks = false := by first | assumption | exact BodyLoose.notSynchronized (by assumption) | exact Body.notSynchronized (by assumption)) :
    ∃ U : State, Steps p.tables e below (W.setTop g) U ∧ U.status = .running ∧ Ended U below (.threw a) ∧ s.WarmedH U.vm ∧ s.sameButNew ({ U with vm := s.vm } : State) locs cells slots ∧
      ∃ ce, U.heap[a]? = some ce ∧ s.vm.findClass cls = some ce.cls ∧ ce.vm = .none := by
  have howns : e.platform.frameOwnsMonitors = true := by rw [X.admits.platform]
  have hfin : e.platform.finalization = false := by rw [X.admits.platform]
  have hpl : e.platform.magicAccessors = ({} : Platform).magicAccessors := by rw [X.admits.platform]
  have a' : ∀ x, x ∈ hz_own own ic cls sup names idx bytes → x.holds args s none s [] = true := fun x hx => h x hx
  obtain ⟨T, Z0, L, -, Y⟩ := ThrowableC.of_atoms (args := args) howns hfin hpl (fun x hx => h x (by simp [hz_own, hx]))
  obtain ⟨Z, M, LZ, LM, hnZ⟩ := Init0T.ofS_atoms (args := args) hpl L Y (fun x hx => h x (by simp [hz_own, hx]))
  obtain ⟨P1, L1, hP1m, hs9⟩ := PassC.ofS_atoms (args := args) (s := s) hpl (X := cls) (Y := sup) (Bundle.fit_spec hcls).1 (Bundle.fit_spec hsup).2 b0 b1 b2 b5 (fun x hx => h x (by simp only [hz_own, List.mem_append]; exact Or.inl (Or.inr (Or.inl hx))))
  obtain ⟨P2, Ps2, hlen2, L2, hL2, hP2m, hlink2, hlink3⟩ := Bundle.chainS (args := args) hpl hnZ names sup hsup hnames (fun x hx => h x (by simp only [hz_own, List.mem_append]; exact Or.inl (Or.inr (Or.inr hx))))
  obtain ⟨Ps, hPs⟩ : ∃ z, z = P2 :: Ps2 := ⟨_, rfl⟩
  have hlen : Ps.length = names.length + 1 := by rw [hPs]; simp [hlen2]
  have hL : ∀ P, P ∈ Ps → P.LinksS e.platform s := fun P hP => by
    rw [hPs] at hP
    rcases List.mem_cons.mp hP with rfl | hP
    · exact L2
    · exact hL2 P hP
  have hlink1 : P1.sup = firstOf (Z.m T.toThrowableT) (Ps.map (·.toPassT)) := by rw [hPs]; exact Option.some.inj (hs9.symm.trans hP2m)
  have hlink : PassesOn (Z.m T.toThrowableT) (Ps.map (·.toPassT)) := by rw [hPs]; exact ⟨hlink2, hlink3⟩
  have hfound : s.vm.findClass cls = some P1.m.cls := findClass_of_methodNamed hP1m
  cases Option.some.inj (hfoundX.symm.trans hfound)
  obtain ⟨c1, kX', hc1, hk, hord, -, -, hn6⟩ := Cond.instantiable_spec (a' (.instantiable cls 6) (by simp [hz_own]))
  cases Option.some.inj (hc1.symm.trans hfound)
  cases Option.some.inj (hkX.symm.trans hk)
  have hsel0 : selectMethod e.platform s.vm P1.m.cls T.fill0 = .method T.fill0 := by
    obtain ⟨c2, r2, m2, q1, q2, q3, q4, -⟩ := Cond.selects_spec (a' (.selects cls Bundle.tFill0 Bundle.tFill0) (by simp [hz_own]))
    cases Option.some.inj (q1.symm.trans hfound)
    cases Option.some.inj (q2.symm.trans (State.methodFound?_of_named Y.fill0 (by decide)))
    cases Option.some.inj (q3.symm.trans Y.fill0)
    rw [Launch.admits_selectMethod X.admits]; exact q4
  have hselF : selectMethod e.platform s.vm P1.m.cls T.fill = .method T.fill := by
    obtain ⟨c2, r2, m2, q1, q2, q3, q4, -⟩ := Cond.selects_spec (a' (.selects cls Bundle.tFill Bundle.tFill) (by simp [hz_own]))
    cases Option.some.inj (q1.symm.trans hfound)
    cases Option.some.inj (q2.symm.trans (State.methodFound?_of_named Y.fill (by decide)))
    cases Option.some.inj (q3.symm.trans Y.fill)
    rw [Launch.admits_selectMethod X.admits]; exact q4
  obtain ⟨cellS0, hcS0, hiss⟩ := Y.statics
  obtain ⟨u0, hu0⟩ := Cond.staticRefV Y.unassigned L.unassignedStatic L.statics hcS0 hiss (a' (.isRef (.static Bundle.tN "UNASSIGNED_STACK" Bundle.steD)) (by simp [hz_own]))
  obtain ⟨sen, hsen⟩ := Cond.staticRefV Y.sentinel L.sentinelStatic L.statics hcS0 hiss (a' (.isRef (.static Bundle.tN "SUPPRESSED_SENTINEL" Bundle.listD)) (by simp [hz_own]))
  obtain ⟨ci198, i198, fB, hk198, hg198, ha198, hsB, -, hnB, htB, hffB⟩ := Cond.ownField (t := .object "java/lang/Object") Y.found L.cls (by decide +kernel) (a' (.fieldLink Bundle.tN 198 Bundle.tN "backtrace" "Ljava/lang/Object;") (by simp [hz_own])) (a' (.lays Bundle.tN Bundle.tN "backtrace" "Ljava/lang/Object;") (by simp [hz_own])) e.platform hpl
  obtain ⟨cellS, hcS', heS, -, hkeep⟩ := X.same.2.2.2.2.2 T.aS cellS0 hcS0
  have hcellS : W.heap[T.aS]? = some cellS := hcS'
  have hout' : ∀ i, (⟨T.aS, i⟩ : Loc) ∉ locs := fun i hmem => by
    have := hlocs _ hmem cellS0 hcS0
    rw [hiss] at this; cases this
  have hknownS : cellS.vm ≠ .unknown := by
    rw [heS]; intro hu
    rw [show cellS0.vm = .unknown from hu] at hiss
    cases hiss
  have hneS : T.aS ≠ a := Nat.ne_of_lt (Nat.lt_of_lt_of_le (Array.getElem?_eq_some_iff.mp hcS0).1 hnew)
  obtain ⟨iM, hffM⟩ := Y.msg
  obtain ⟨tyC, dC, hdC, hdnC⟩ := Cond.laysAt hfound hk Y.cause (a' (.lays cls Bundle.tN "cause" "Ljava/lang/Throwable;") (by simp [hz_own]))
  obtain ⟨tyS, dS, hdS, hdnS⟩ := Cond.laysAt hfound hk Y.stack (a' (.lays cls Bundle.tN "stackTrace" Bundle.steD) (by simp [hz_own]))
  obtain ⟨tyP, dP, hdP, hdnP⟩ := Cond.laysAt hfound hk Y.supp (a' (.lays cls Bundle.tN "suppressedExceptions" Bundle.listD) (by simp [hz_own]))
  obtain ⟨tyM, dM, hdM, hdnM⟩ := Cond.laysAt hfound hk hffM (a' (.lays cls Bundle.tN "detailMessage" "Ljava/lang/String;") (by simp [hz_own]))
  obtain ⟨tyB, dB, hdB, hdnB⟩ := Cond.laysAt hfound hk hffB (a' (.lays cls Bundle.tN "backtrace" "Ljava/lang/Object;") (by simp [hz_own]))
  have bC := Cond.laysApart hdB hdC hdnB hdnC (by rw [hnB, Y.causeName]; decide)
  have bS := Cond.laysApart hdB hdS hdnB hdnS (by rw [hnB, Y.stackName]; decide)
  have bP := Cond.laysApart hdB hdP hdnB hdnP (by rw [hnB, Y.suppName]; decide)
  have hskip : SkipFacts T e.platform s (fun u => u) u0 ((preparedCellV T.toThrowableT (freshCell P1.m.cls kX) a u0 sen).withEntry W.cur) :=
    ⟨{ ci198 := ci198, i198 := i198, fBack := fB }, ⟨hk198, hg198, ha198, hsB⟩, by
      have := fresh_default (c := P1.m.cls) tyB
      rw [htB] at this
      simpa [preparedCellV, Cell.setSlot, Cell.withEntry, Array.getElem?_setIfInBounds, bC, bS, bP, bC.symm, bS.symm, bP.symm, defaultValue] using this, fun _ _ => rfl⟩
  obtain ⟨tm, methC, cdC, kC, vm₁, hnC, -, -, -, -, -, -, -, hW₁, st1⟩ := Steps.initColdS (tb := p.tables) (e := e) (below := below) (s := s) (U := W) X.here hexec X.warmed hpl hown (t := Bundle.initS cls) rfl rfl (Bundle.fit_spec hcls).2
    (a' (.methodLink own ic (Bundle.initS cls)) (by simp [hz_own])) (h (.instanceMethod (Bundle.initS cls)) (by simp [hz_own, Bundle.passSAtoms])) (bytes := bytes) (maxL := 2) (h (.code (Bundle.initS cls) bytes 2 none) (by simp [hz_own, Bundle.passSAtoms]))
    (f := g) hg (a := a) (msg := msg) (rest := .ref a :: rest) hstack hd6
  cases Option.some.inj (hnC.symm.trans hP1m)
  have X₁ := X.noted hW₁
  obtain ⟨vm₂, X₂, st2⟩ := X₁.ctorMessageOffV hexec (g := { g with stack := .ref a :: rest }) hg hsize T L Z LZ M LM (P1 :: Ps)
    (fun P hP => by rcases List.mem_cons.mp hP with rfl | hP; exact L1; exact hL P hP) ⟨hlink1, hlink⟩ (u0 := u0) (sen := sen) (self := a) hmsg (cell := freshCell P1.m.cls kX) (cellS := cellS)
    hcell (fun _ => by simp) (by simp) rfl rfl hsel0 hselF hcellS hneS hknownS (by rw [hkeep _ (hout' _)]; exact hu0) (by rw [hkeep _ (hout' _)]; exact hsen)
    (Takes.of_laid hk hord tyC (by rw [Y.causeType]; rfl)) (Takes.of_laid hk hord tyS (by rw [Y.stackType]; exact fits_refV_array _ u0)) (Takes.of_laid hk hord tyP (by rw [Y.suppType]; exact fits_refV_object _ sen))
    (Takes.of_laid hk hord tyM (by rw [Y.msgType]; exact fits_refV_object _ ⟨msg, hmsg⟩)) Y.objLocals hskip htr [] hd6
    (by simp only [List.length_cons, hlen]; omega) (by simp only [List.length_cons, hlen]; exact hRlocals)
  obtain ⟨hwalk, hrun, hended, hWU, hsame⟩ := X₂.athrowLeaves hexec (g := { g with stack := .ref a :: rest, pc := g.pc + 3 }) hg hlocked hentered hout (a := a) (rest := rest) rfl hd9
  obtain ⟨c3, c4, hc3, hc4, hasg⟩ := Cond.castable_spec (a' (.castable cls cls) (by simp [hz_own]))
  cases Option.some.inj (hc3.symm.trans hfound)
  cases Option.some.inj (hc4.symm.trans hfound)
  have hlt : a < ((W.setVm vm₁).setVm vm₂).heap.size := (Array.getElem?_eq_some_iff.mp hcell).1
  have hU := heapAt_setCell_self (s := (W.setVm vm₁).setVm vm₂) (plainBareV T.toThrowableT (freshCell P1.m.cls kX) a u0 sen msg) hlt
  refine ⟨_, st1 _ (fun acts => ?_), hrun, hended, hWU, hsame.weaken (fun y hy hlt' => ?_) (Nat.le_refl _) (Nat.le_refl _), _, hU, ?_⟩
  · rw [doInvoke_state]
    exact st2 _ hwalk
  · rcases List.mem_append.mp hy with h1 | h1
    · exact h1
    · exfalso
      have hb : y.base = a := by
        simp only [List.mem_cons, List.not_mem_nil, or_false] at h1
        rcases h1 with rfl | rfl | rfl | rfl | rfl <;> rfl
      rw [hb] at hlt'
      exact Nat.not_lt.mpr hnew hlt'
  · exact ⟨hfound, rfl⟩
end HZC
section HZT
variable {p : Program} {l : Launch} {e : Env} {R : Room} {s : State} {m : MethodId} {args : Array Value} {below : List Frame} {meth : Method} {c : Code} {H : Heap} {locs : List Loc} {cells slots : Nat} {Q : State → Prop}
variable {mc ms : Nat} {free : Addr → Prop} {A0 A1 : Nat → Prop} {H0 : Heap} {a : Array Value} {ls : Array Slot} {st0 rest : List Value}
variable {Qc : Array Value → State → Outcome → State → Prop} {XC : String → State → State → Prop}
def hz_atS (own : String) (ic : Nat) (X Y : String) (names : List String) (idx : Nat) (bytes : ByteArray) : List Cond := (hz_own own ic X Y names idx bytes).filter vx_no
theorem hz_ownw {args : Array Value} {s : State} {L : List Cond} (h1 : ∀ w ∈ L.filter vx_no, w.before args s = true)
    (hU : (Cond.isRef (.static Bundle.tN "UNASSIGNED_STACK" Bundle.steD)).before args s = true) (hN : (Cond.isRef (.static Bundle.tN "SUPPRESSED_SENTINEL" Bundle.listD)).before args s = true)
    (lU : (Cond.laysStatic Bundle.tN "UNASSIGNED_STACK" Bundle.steD).before args s = true) (lN : (Cond.laysStatic Bundle.tN "SUPPRESSED_SENTINEL" Bundle.listD).before args s = true) : ∀ w ∈ L, w.before args s = true := by
  intro w hw
  by_cases e1 : w = .isRef (.static Bundle.tN "UNASSIGNED_STACK" Bundle.steD)
  · rw [e1]; exact hU
  · by_cases e2 : w = .isRef (.static Bundle.tN "SUPPRESSED_SENTINEL" Bundle.listD)
    · rw [e2]; exact hN
    · by_cases e3 : w = .laysStatic Bundle.tN "UNASSIGNED_STACK" Bundle.steD
      · rw [e3]; exact lU
      · by_cases e4 : w = .laysStatic Bundle.tN "SUPPRESSED_SENTINEL" Bundle.listD
        · rw [e4]; exact lN
        · exact h1 w (List.mem_filter.mpr ⟨hw, by unfold vx_no; rw [decide_eq_true e1, decide_eq_true e2, decide_eq_true e3, decide_eq_true e4]; rfl⟩)
set_option maxHeartbeats 2000000 in
theorem hz_throw {cc : ByteArray} {pc : Nat} (hexec : p.tables.exec = Jvm.exec) (hb : c.code = cc) (hl : l.stackTraces = false) {own cls text sup : String} {names : List String} {ik is ic mc ms sa idx : Nat} {bytes : ByteArray} {A : Nat → Prop}
    (b0 : decode bytes 0 = .ok (.aload_n 0, 1)) (b1 : decode bytes 1 = .ok (.aload_n 1, 1)) (b2 : decode bytes 2 = .ok (.invokespecial idx, 3)) (b5 : decode bytes 5 = .ok (.return_, 1)) (hsup : Bundle.fit sup = true)
    (hown : s.vm.findClass own = some m.cls) (hcls : Bundle.fit cls = true) (hnames : ∀ n ∈ names, Bundle.fit n = true)
    (hk : (Cond.classLink own ik cls).before args s = true) (hini : (Cond.initialized cls).before args s = true) (hstr : vk_R own is text sa s) (hat : ∀ w ∈ hz_atS own ic cls sup names idx bytes, w.before args s = true)
    (hgood : ∀ w ∈ Cond.classLink own ik cls :: Cond.initialized cls :: hz_atS own ic cls sup names idx bytes, vx_ot w = true)
    (hU : vx_Zq Bundle.tN "UNASSIGNED_STACK" Bundle.steD A s s.heap) (hN : vx_Zq Bundle.tN "SUPPRESSED_SENTINEL" Bundle.listD A s s.heap) (hS : va_S A s.heap H locs) (hsize : ls.size = c.maxLocals)
    (d0 : decode cc pc = .ok (.new ik, 3)) (d3 : decode cc (pc + 3) = .ok (.dup, 1)) (d4 : decode cc (pc + 4) = .ok (.ldc is, 2)) (d6 : decode cc (pc + 6) = .ok (.invokespecial ic, 3)) (d9 : decode cc (pc + 9) = .ok (.athrow, 1))
    (hout : ∀ x ∈ c.exceptionTable.toList, covers x (pc + 9) = false)
    (hRframes : (names.length + 1) + 3 < R.frames) (hRlocals : (rest.map fun v => v.category).sum + (13 * ((names.length + 1) + 1) + 43) ≤ R.locals) (hRcells : cells + 1 ≤ R.cells) (hRslots : slots + 6 ≤ R.slots) (hlocks : meth.locks = false)
    (hx : ∀ t : State, s.vm.Alike t.vm → H.size ≤ t.heap.size → (∀ q : Nat, q < H.size → t.heap[q]? = H[q]?) → XC cls s t)
    (hf : ∀ z ∈ locs, free z.base) (hc : cells + 1 ≤ mc) (hs : slots + 6 ≤ ms) :
    W p l e R s m args below meth c H locs cells slots (vx_MQ below Qc XC args s mc ms free) (F0 m pc ls rest) := by
  intro T hT X
  have htr : e.platform.stackTraces = false := (show e.platform.stackTraces = l.stackTraces by rw [X.admits.platform]).trans hl
  have Y := vx_rebase X (R' := { frames := R.frames, locals := R.locals, cells := 1, slots := 6 }) (Nat.le_refl _) (Nat.le_refl _) hRcells hRslots
  obtain ⟨s', hA⟩ : ∃ z, z = (T.setVm s.vm).setFrames (.invoking m args :: below) := ⟨_, rfl⟩
  rw [← hA] at Y
  have hvm : s'.vm = s.vm := by rw [hA]; rfl
  have hhp : s'.heap = H := by rw [hA]; exact hT
  have hW0 : s.WarmedH s'.vm := by rw [hvm]; exact State.WarmedH.refl s
  have hat' : ∀ w ∈ hz_atS own ic cls sup names idx bytes, w.before args s' = true := fun w hw => vx_ot_at hW0 hvm.symm (hgood w (List.mem_cons_of_mem _ (List.mem_cons_of_mem _ hw))) (hat w hw)
  have hk' : (Cond.classLink own ik cls).before args s' = true := vx_ot_at hW0 hvm.symm (hgood _ List.mem_cons_self) hk
  have hini' : (Cond.initialized cls).before args s' = true := vx_ot_at hW0 hvm.symm (hgood _ (List.mem_cons_of_mem _ List.mem_cons_self)) hini
  have hU' : vx_Zq Bundle.tN "UNASSIGNED_STACK" Bundle.steD A s' s'.heap := by rw [hhp]; exact vx_Zq.moved hW0.alike (hU.kept hS.2.1)
  have hN' : vx_Zq Bundle.tN "SUPPRESSED_SENTINEL" Bundle.listD A s' s'.heap := by rw [hhp]; exact vx_Zq.moved hW0.alike (hN.kept hS.2.1)
  have h : ∀ w ∈ hz_own own ic cls sup names idx bytes, w.before args s' = true := hz_ownw hat' (vx_isRefq hU'.1) (vx_isRefq hN'.1) hU'.2.word hN'.2.word
  have hown' : s'.vm.findClass own = some m.cls := by rw [hvm]; exact hown
  have hins : (Cond.instantiable cls 6).before args s' = true := h _ (by simp [hz_own])
  obtain ⟨vm₁, cX, kX, hfX, hkX, -, -, X₁, st1⟩ := Y.newCold hexec (own := own) (C := cls) (index := ik) (n := 6) hown' hk' hins hini'
    (g := F0 m pc ls rest) rfl (by rw [hb]; exact d0) (Nat.le_refl _) (Nat.le_refl _)
  generalize hT1 : (T.setVm vm₁).pushCell { cls := cX, slots := kX.instanceTypes.map defaultValue, vm := .none } = T1 at X₁ st1
  have hcat : (Value.ref T.heap.size).category = 1 := rfl
  have hcellA : T1.heap[T.heap.size]? = some (freshCell cX kX) := by rw [← hT1]; exact State.heap_pushCell_size _ _
  have d3' : decode c.code (pc + 3) = .ok (.dup, 1) := by rw [hb]; exact d3
  have d4' : decode c.code (pc + 4) = .ok (.ldc is, 2) := by rw [hb]; exact d4
  have hstr' : vk_R own is text sa s' := vk_R.warm hW0 hstr
  obtain ⟨U, hsteps, hrun, hend, hW, hsame, ce, hce, hO⟩ := hz_ctor X₁ hexec htr (own := own) (cls := cls) (names := names) (ic := ic) b0 b1 b2 b5 hsup hown' hcls hnames h (fun x hx => nomatch hx) hfX hkX hcellA (by rw [hhp, hT]; exact Nat.le_refl _) (msg := .ref sa) rfl
    (g := { method := m, pc := pc + 6, locals := ls, stack := .ref sa :: .ref T.heap.size :: .ref T.heap.size :: rest, locked := none }) rfl hsize rfl rfl (rest := rest) rfl
    (by rw [hb]; exact d6) (by rw [hb]; exact d9) hout hRframes (by simp only [List.map_cons, List.sum_cons, hcat]; omega) hlocks
  obtain ⟨f1, f2⟩ := vx_frame hsame
  rw [hhp] at f1 f2
  have hWs : s.WarmedH U.vm := State.WarmedH.trans hW0 hW
  have hcl : s.vm.findClass cls = some ce.cls := by
    have h9 := hO.1
    rw [hvm] at h9
    exact h9
  have hall : s.sameButNew ({ U with vm := s.vm } : State) locs mc ms := by
    subst hA
    obtain ⟨e1, e2⟩ := hsame
    rw [State.setFrames_setFrames] at e1
    have h2 : (T.setVm s.vm).sameButNew ({ U with vm := s.vm } : State) [] (0 + 1) (0 + 6) := ⟨e1, e2⟩
    have h3 := X.same.trans h2
    rw [List.append_nil] at h3
    exact h3.mono hc hs
  refine ⟨U, ?_, .threw T.heap.size, hrun, hend, Or.inr ⟨T.heap.size, rfl, cls, ce, locs, hx U hWs.alike f1 (fun q hq => f2 q hq (fun z hz => nomatch hz)), hce, hO.2, hcl, hWs, hall, hf⟩⟩
  refine st1 _ ?_
  show Steps p.tables e below (T1.setTop { method := m, pc := pc + 3, locals := ls, stack := .ref T.heap.size :: rest, locked := none }) _
  jvm_step X₁.here [X₁.here.top, hexec, d3', Value.category]
  exact X₁.ldcString hexec (own := own) (text := text) (index := is) (a := sa) hown' hstr'.1 hstr'.2
    (g := { method := m, pc := pc + 4, locals := ls, stack := .ref T.heap.size :: .ref T.heap.size :: rest, locked := none }) rfl d4' _ hsteps
end HZT
end
section
theorem hz_in89 : ∀ w ∈ (hz_atS RX0 89 hz_N "java/lang/RuntimeException" ["java/lang/Exception"] 13 prog_12_method_4_code).filter goodWord, w ∈ lw_tbl := by decide +kernel
theorem hz_at89 {args : Array Value} {s : State} {A : Nat → Prop} {H : Heap} (hts : ∀ w ∈ wb, w.before args s = true) (hZ : hz_F A s H) : ∀ w ∈ hz_atS RX0 89 hz_N "java/lang/RuntimeException" ["java/lang/Exception"] 13 prog_12_method_4_code, w.before args s = true :=
  vx_hat (B := [.castable hz_N hz_N, .declares ⟨"java/lang/RuntimeException", "<init>", "(Ljava/lang/String;)V"⟩, .declares ⟨"java/lang/Exception", "<init>", "(Ljava/lang/String;)V"⟩, .declares ⟨"java/lang/Throwable", "<init>", "(Ljava/lang/String;)V"⟩]) (fun w hw => hts w (wb_mem (hz_in89 w hw) (List.mem_filter.mp hw).2)) (by decide +kernel)
    (vx_c (va_Nw.use rfl hZ.2.2.1.2.2) (vx_c (va_Nw.use rfl hZ.2.2.2.1.1) (vx_c (va_Nw.use rfl hZ.2.2.2.1.2.1) (vx_c (va_Nw.use rfl hZ.2.2.2.1.2.2) vx_n))))
theorem hz_b0 : decode prog_12_method_4_code 0 = .ok (.aload_n 0, 1) := by decide +kernel
theorem hz_b1 : decode prog_12_method_4_code 1 = .ok (.aload_n 1, 1) := by decide +kernel
theorem hz_b2 : decode prog_12_method_4_code 2 = .ok (.invokespecial 13, 3) := by decide +kernel
theorem hz_b5 : decode prog_12_method_4_code 5 = .ok (.return_, 1) := by decide +kernel
end
section
set_option maxHeartbeats 4000000 in
set_option maxRecDepth 100000 in
theorem c_X0_checkBelow (l : Launch) {n b : Int32} (hok : ¬ (n < 0 ∨ b ≤ n)) : Met l yX0_checkBelow wsX0_checkBelow ({ frames := 0, cells := 0, slots := 0, locals := 0 }) (fun v _ => v = ([.int n, .int b] : List Value).toArray) hw_Qn 0 0 (fun _ => False) := by
  refine Met.ofW (cc := cX0_checkBelow) (maxL := 2) (ret := none) (by decide) rfl ?_
  intro p e s m args below meth c s₁ B hml hv
  subst hv
  have hx := B.exec
  have hb := B.bytes
  have hr := B.returns
  have hts : ∀ w ∈ wb, w.before _ s = true := fun w h => atoms_spec (ws := wsX0_checkBelow) B.pre w (List.mem_cons_of_mem _ h)
  have hown : s.vm.findClass RX0 = some m.cls := findClass_of_methodNamed B.named
  have hlocks := B.notSynchronized
  have hl := lv_entry ([.int n, .int b]) (n := 2) (Nat.le_of_ble_eq_true rfl)
  rw [lg_entry_eq]
  generalize (lg_sl ([.int n, .int b]) ++ List.replicate (2 - (lg_sl ([.int n, .int b])).length) Slot.unset).toArray = ls at hl ⊢
  have hl : lv_has ls 2 [(0, .int n), (1, .int b)] := hl
  refine lv_iload_n hx hb dX0_checkBelow_0 rfl (lv_at hl 0 rfl) ?_
  refine lv_if_lt hx hb dX0_checkBelow_1 (tgt := 9) (by decide) (fun hc => ?_) (fun hc => ?_)
  · exact absurd (Or.inl hc) hok
  · skip
    refine lv_iload_n hx hb dX0_checkBelow_4 rfl (lv_at hl 0 rfl) ?_
    refine lv_iload_n hx hb dX0_checkBelow_5 rfl (lv_at hl 1 rfl) ?_
    refine lv_icmp_lt hx hb dX0_checkBelow_6 (tgt := 19) (by decide) (fun hc => ?_) (fun hc => ?_)
    · skip
      exact W.vret hx hb hr (fun t ht hWm => ⟨rfl, ht⟩) (fun q h => nomatch h) dX0_checkBelow_19
    · exact absurd (Or.inr (Int32.not_lt.mp hc)) hok

set_option maxHeartbeats 4000000 in
set_option maxRecDepth 100000 in
theorem x_X0_checkBelow (l : Launch) (hl9 : l.stackTraces = false) (dC : Nat → ClassId) (dI : Nat → Nat → Nat) (sz : Nat) {n b : Int32} (hbad : n < 0 ∨ b ≤ n) : vx_Met l yX0_checkBelow wsX0_checkBelow ({ frames := 6, cells := 1, slots := 6, locals := 90 }) (va_Pc [.int n, .int b] (hx_pre (dC, dI) vwCl [] [] sz)) (fun _ _ _ _ => False) (vx_X (fun _ : Unit => True) (fun E _ _ => E = hz_A) (va_A [] sz)) 1 6 (va_A [] sz) := by
  refine vx_ofW (cc := cX0_checkBelow) (maxL := 2) (ret := none) (by decide) rfl ?_
  intro p e s m args below meth c s₁ B hml hEx hv
  obtain ⟨hargs, hsz, hP, hK, hD0, hZ⟩ := hv
  have hx := B.exec
  have hb := B.bytes
  have hr := B.returns
  have hts : ∀ w ∈ wb, w.before _ s = true := fun w h => atoms_spec (ws := wsX0_checkBelow) B.pre w (List.mem_cons_of_mem _ h)
  have hown : s.vm.findClass RX0 = some m.cls := findClass_of_methodNamed B.named
  have hlocks := B.notSynchronized
  subst hsz
  have hD := hD0.self (sz := s.heap.size)
  generalize hAe : va_A [] s.heap.size = A at hD hZ ⊢
  have hA : ∀ q : Nat, s.heap.size ≤ q → A q := fun q h => by rw [← hAe]; exact Or.inr h
  have hS : va_S A s.heap s.heap [] := va_S.rf
  generalize hQ9 : vx_MQ below (fun _ _ _ _ => False) (vx_X (fun _ : Unit => True) (fun E _ _ => E = hz_A) A) args s 1 6 A = Q9
  have hl := lv_entry ([.int n, .int b]) (n := 2) (Nat.le_of_ble_eq_true rfl)
  rw [show entryFrame m args 2 = _ from (congrArg (fun z => entryFrame m z 2) hargs).trans (lg_entry_eq m [.int n, .int b] 2)]
  generalize (lg_sl ([.int n, .int b]) ++ List.replicate (2 - (lg_sl ([.int n, .int b])).length) Slot.unset).toArray = ls at hl ⊢
  have hl : lv_has ls 2 [(0, .int n), (1, .int b)] := hl
  obtain ⟨H, hH⟩ : ∃ H, H = s.heap := ⟨_, rfl⟩
  rw [← hH] at hP
  have hS : va_S A s.heap H [] := by rw [hH]; exact hS
  rw [← hH]
  generalize ([] : List Loc) = locs at hS ⊢
  refine lv_iload_n hx hb dX0_checkBelow_0 rfl (lv_at hl 0 rfl) ?_
  refine lv_if_lt hx hb dX0_checkBelow_1 (tgt := 9) (by decide) (fun hc => ?_) (fun hc => ?_)
  · skip
    subst hQ9
    obtain ⟨q9, hq9⟩ := hZ.2.2.2.2.1
    exact vx_throwS (own := RX0) (cls := hz_A) (names := hz_up) hx hb hl9 hown (by decide +kernel) (by decide +kernel) (hts _ bw_cl_X0_76) (hts _ bw_in_java_lang_IllegalArgumentException) hq9 (hz_at80 hts hZ) (by decide +kernel) hZ.1 hZ.2.1 hS (hl.1.trans hml.symm) dX0_checkBelow_9 dX0_checkBelow_12 dX0_checkBelow_13 dX0_checkBelow_15 dX0_checkBelow_18 (fun x hx => (hEx x hx).elim) (Nat.le_of_ble_eq_true rfl) (Nat.le_of_ble_eq_true rfl) (by decide) (by decide) hlocks (fun t ha hsz hk => ⟨(), trivial, rfl, Nat.le_trans hS.1 hsz, fun q h1 h2 => (hk q (Nat.lt_of_lt_of_le h1 hS.1)).trans (hS.2.1 q h1 h2)⟩) hS.2.2 (by decide) (by decide)
  · skip
    refine lv_iload_n hx hb dX0_checkBelow_4 rfl (lv_at hl 0 rfl) ?_
    refine lv_iload_n hx hb dX0_checkBelow_5 rfl (lv_at hl 1 rfl) ?_
    refine lv_icmp_lt hx hb dX0_checkBelow_6 (tgt := 19) (by decide) (fun hc => ?_) (fun hc => ?_)
    · exact absurd hc (Int32.not_lt.mpr (hbad.resolve_left (by assumption)))
    · skip
      subst hQ9
      obtain ⟨q9, hq9⟩ := hZ.2.2.2.2.1
      exact vx_throwS (own := RX0) (cls := hz_A) (names := hz_up) hx hb hl9 hown (by decide +kernel) (by decide +kernel) (hts _ bw_cl_X0_76) (hts _ bw_in_java_lang_IllegalArgumentException) hq9 (hz_at80 hts hZ) (by decide +kernel) hZ.1 hZ.2.1 hS (hl.1.trans hml.symm) dX0_checkBelow_9 dX0_checkBelow_12 dX0_checkBelow_13 dX0_checkBelow_15 dX0_checkBelow_18 (fun x hx => (hEx x hx).elim) (Nat.le_of_ble_eq_true rfl) (Nat.le_of_ble_eq_true rfl) (by decide) (by decide) hlocks (fun t ha hsz hk => ⟨(), trivial, rfl, Nat.le_trans hS.1 hsz, fun q h1 h2 => (hk q (Nat.lt_of_lt_of_le h1 hS.1)).trans (hS.2.1 q h1 h2)⟩) hS.2.2 (by decide) (by decide)

set_option maxHeartbeats 4000000 in
set_option maxRecDepth 100000 in
theorem c_X0_checkRegister (l : Launch) {r : Int32} (hok : ¬ hp_bad r 16) : Met l yX0_checkRegister wsX0_checkRegister ({ frames := 1, cells := 0, slots := 0, locals := 21 }) (fun v _ => v = ([.int r] : List Value).toArray) hw_Qn 0 0 (fun _ => False) := by
  refine Met.ofW (cc := cX0_checkRegister) (maxL := 1) (ret := none) (by decide) rfl ?_
  intro p e s m args below meth c s₁ B hml hv
  subst hv
  have hx := B.exec
  have hb := B.bytes
  have hr := B.returns
  have hts : ∀ w ∈ wb, w.before _ s = true := fun w h => atoms_spec (ws := wsX0_checkRegister) B.pre w (List.mem_cons_of_mem _ h)
  have hown : s.vm.findClass RX0 = some m.cls := findClass_of_methodNamed B.named
  have hlocks := B.notSynchronized
  have hl := lv_entry ([.int r]) (n := 1) (Nat.le_of_ble_eq_true rfl)
  rw [lg_entry_eq]
  generalize (lg_sl ([.int r]) ++ List.replicate (1 - (lg_sl ([.int r])).length) Slot.unset).toArray = ls at hl ⊢
  have hl : lv_has ls 1 [(0, .int r)] := hl
  refine lv_iload_n hx hb dX0_checkRegister_0 rfl (lv_at hl 0 rfl) ?_
  refine lv_bipush (v := 16) hx hb dX0_checkRegister_1 (by decide) ?_
  refine hw_callN (W.runS (As := [.int r, .int 16]) (rest := []) ⟨hx, hb, hml, hown, hts⟩ (c_X0_checkBelow l hok) (va_cwS 2 hts gw_X0_46 rfl rfl rfl ⟨by decide, by decide, by decide +kernel⟩ ⟨Nat.le_of_ble_eq_true rfl, Nat.le_of_ble_eq_true rfl⟩) preEq rfl rfl hl.1 rfl (lv_room (Nat.le_of_ble_eq_true rfl)) dX0_checkRegister_3 ⟨by decide, by decide⟩) ?_
  exact W.vret hx hb hr (fun t ht hWm => ⟨rfl, ht⟩) (fun q h => nomatch h) dX0_checkRegister_6

set_option maxHeartbeats 4000000 in
set_option maxRecDepth 100000 in
theorem x_X0_checkRegister (l : Launch) (hl9 : l.stackTraces = false) (dC : Nat → ClassId) (dI : Nat → Nat → Nat) (sz : Nat) {r : Int32} (hbad : hp_bad r 16) : vx_Met l yX0_checkRegister wsX0_checkRegister ({ frames := 7, cells := 1, slots := 6, locals := 111 }) (va_Pc [.int r] (hx_pre (dC, dI) vwCl [] [] sz)) (fun _ _ _ _ => False) (vx_X (fun _ : Unit => True) (fun E _ _ => E = hz_A) (va_A [] sz)) 1 6 (va_A [] sz) := by
  refine vx_ofW (cc := cX0_checkRegister) (maxL := 1) (ret := none) (by decide) rfl ?_
  intro p e s m args below meth c s₁ B hml hEx hv
  obtain ⟨hargs, hsz, hP, hK, hD0, hZ⟩ := hv
  have hx := B.exec
  have hb := B.bytes
  have hr := B.returns
  have hts : ∀ w ∈ wb, w.before _ s = true := fun w h => atoms_spec (ws := wsX0_checkRegister) B.pre w (List.mem_cons_of_mem _ h)
  have hown : s.vm.findClass RX0 = some m.cls := findClass_of_methodNamed B.named
  have hlocks := B.notSynchronized
  subst hsz
  have hD := hD0.self (sz := s.heap.size)
  generalize hAe : va_A [] s.heap.size = A at hD hZ ⊢
  have hA : ∀ q : Nat, s.heap.size ≤ q → A q := fun q h => by rw [← hAe]; exact Or.inr h
  have hS : va_S A s.heap s.heap [] := va_S.rf
  generalize hQ9 : vx_MQ below (fun _ _ _ _ => False) (vx_X (fun _ : Unit => True) (fun E _ _ => E = hz_A) A) args s 1 6 A = Q9
  have hl := lv_entry ([.int r]) (n := 1) (Nat.le_of_ble_eq_true rfl)
  rw [show entryFrame m args 1 = _ from (congrArg (fun z => entryFrame m z 1) hargs).trans (lg_entry_eq m [.int r] 1)]
  generalize (lg_sl ([.int r]) ++ List.replicate (1 - (lg_sl ([.int r])).length) Slot.unset).toArray = ls at hl ⊢
  have hl : lv_has ls 1 [(0, .int r)] := hl
  obtain ⟨H, hH⟩ : ∃ H, H = s.heap := ⟨_, rfl⟩
  rw [← hH] at hP
  have hS : va_S A s.heap H [] := by rw [hH]; exact hS
  rw [← hH]
  generalize ([] : List Loc) = locs at hS ⊢
  refine lv_iload_n hx hb dX0_checkRegister_0 rfl (lv_at hl 0 rfl) ?_
  refine lv_bipush (v := 16) hx hb dX0_checkRegister_1 (by decide) ?_
  refine hx_throws (vx_runS (As := [.int r, .int 16]) (rest := []) ⟨hx, hb, hml, hown, hts⟩ (x_X0_checkBelow l hl9 dC dI _ hbad) (va_cwS 2 hts gw_X0_46 rfl rfl rfl ⟨by decide, by decide, by decide +kernel⟩ ⟨Nat.le_of_ble_eq_true rfl, Nat.le_of_ble_eq_true rfl⟩) ⟨hx_blind, hx_pay hx_P0 (hK.sub (tys' := []) [] rfl) hx_D0 hS hA hZ⟩ rfl rfl hl.1 rfl (lv_room (Nat.le_of_ble_eq_true rfl)) dX0_checkRegister_3 ⟨by decide, by decide⟩) hP hS hA (fun E ce9 q9 H locs hb9 hP hS h1 h2 h3 => ?_)
  subst hQ9
  exact vx_out (fun x hx => (hEx x hx).elim) hlocks h1 h2 h3 (fun t ht ha => ⟨(), trivial, hb9, hS.F ht⟩) hS.2.2 (Nat.le_of_ble_eq_true rfl) (Nat.le_of_ble_eq_true rfl)

set_option maxHeartbeats 4000000 in
set_option maxRecDepth 100000 in
theorem c_X0_checkKind (l : Launch) : Met l yX0_checkKind wsX0_checkKind ({ frames := 0, cells := 0, slots := 0, locals := 0 }) (fun v _ => v = ([.int 1] : List Value).toArray) hw_Qn 0 0 (fun _ => False) := by
  refine Met.ofW (cc := cX0_checkKind) (maxL := 1) (ret := none) (by decide) rfl ?_
  intro p e s m args below meth c s₁ B hml hv
  subst hv
  have hx := B.exec
  have hb := B.bytes
  have hr := B.returns
  have hts : ∀ w ∈ wb, w.before _ s = true := fun w h => atoms_spec (ws := wsX0_checkKind) B.pre w (List.mem_cons_of_mem _ h)
  have hown : s.vm.findClass RX0 = some m.cls := findClass_of_methodNamed B.named
  have hlocks := B.notSynchronized
  have hl := lv_entry ([.int 1]) (n := 1) (Nat.le_of_ble_eq_true rfl)
  rw [lg_entry_eq]
  generalize (lg_sl ([.int 1]) ++ List.replicate (1 - (lg_sl ([.int 1])).length) Slot.unset).toArray = ls at hl ⊢
  have hl : lv_has ls 1 [(0, .int 1)] := hl
  refine lv_iload_n hx hb dX0_checkKind_0 rfl (lv_at hl 0 rfl) ?_
  refine lv_if_ne hx hb dX0_checkKind_1 (tgt := 14) (by decide) (fun hc => ?_) (fun hc => ?_)
  · skip
    exact W.vret hx hb hr (fun t ht hWm => ⟨rfl, ht⟩) (fun q h => nomatch h) dX0_checkKind_14
  · exact absurd hc (by decide)

set_option maxHeartbeats 4000000 in
set_option maxRecDepth 100000 in
theorem x_X0_checkKind (l : Launch) (hl9 : l.stackTraces = false) (dC : Nat → ClassId) (dI : Nat → Nat → Nat) (sz : Nat) : vx_Met l yX0_checkKind wsX0_checkKind ({ frames := 6, cells := 1, slots := 6, locals := 90 }) (va_Pc [.int 0] (hx_pre (dC, dI) vwCl [] [] sz)) (fun _ _ _ _ => False) (vx_X (fun _ : Unit => True) (fun E _ _ => E = hz_A) (va_A [] sz)) 1 6 (va_A [] sz) := by
  refine vx_ofW (cc := cX0_checkKind) (maxL := 1) (ret := none) (by decide) rfl ?_
  intro p e s m args below meth c s₁ B hml hEx hv
  obtain ⟨hargs, hsz, hP, hK, hD0, hZ⟩ := hv
  have hx := B.exec
  have hb := B.bytes
  have hr := B.returns
  have hts : ∀ w ∈ wb, w.before _ s = true := fun w h => atoms_spec (ws := wsX0_checkKind) B.pre w (List.mem_cons_of_mem _ h)
  have hown : s.vm.findClass RX0 = some m.cls := findClass_of_methodNamed B.named
  have hlocks := B.notSynchronized
  subst hsz
  have hD := hD0.self (sz := s.heap.size)
  generalize hAe : va_A [] s.heap.size = A at hD hZ ⊢
  have hA : ∀ q : Nat, s.heap.size ≤ q → A q := fun q h => by rw [← hAe]; exact Or.inr h
  have hS : va_S A s.heap s.heap [] := va_S.rf
  generalize hQ9 : vx_MQ below (fun _ _ _ _ => False) (vx_X (fun _ : Unit => True) (fun E _ _ => E = hz_A) A) args s 1 6 A = Q9
  have hl := lv_entry ([.int 0]) (n := 1) (Nat.le_of_ble_eq_true rfl)
  rw [show entryFrame m args 1 = _ from (congrArg (fun z => entryFrame m z 1) hargs).trans (lg_entry_eq m [.int 0] 1)]
  generalize (lg_sl ([.int 0]) ++ List.replicate (1 - (lg_sl ([.int 0])).length) Slot.unset).toArray = ls at hl ⊢
  have hl : lv_has ls 1 [(0, .int 0)] := hl
  obtain ⟨H, hH⟩ : ∃ H, H = s.heap := ⟨_, rfl⟩
  rw [← hH] at hP
  have hS : va_S A s.heap H [] := by rw [hH]; exact hS
  rw [← hH]
  generalize ([] : List Loc) = locs at hS ⊢
  refine lv_iload_n hx hb dX0_checkKind_0 rfl (lv_at hl 0 rfl) ?_
  refine lv_if_ne hx hb dX0_checkKind_1 (tgt := 14) (by decide) (fun hc => ?_) (fun hc => ?_)
  · exact absurd rfl hc
  · skip
    subst hQ9
    obtain ⟨q9, hq9⟩ := hZ.2.2.2.2.2.1
    exact vx_throwS (own := RX0) (cls := hz_A) (names := hz_up) hx hb hl9 hown (by decide +kernel) (by decide +kernel) (hts _ bw_cl_X0_76) (hts _ bw_in_java_lang_IllegalArgumentException) hq9 (hz_at80 hts hZ) (by decide +kernel) hZ.1 hZ.2.1 hS (hl.1.trans hml.symm) dX0_checkKind_4 dX0_checkKind_7 dX0_checkKind_8 dX0_checkKind_10 dX0_checkKind_13 (fun x hx => (hEx x hx).elim) (Nat.le_of_ble_eq_true rfl) (Nat.le_of_ble_eq_true rfl) (by decide) (by decide) hlocks (fun t ha hsz hk => ⟨(), trivial, rfl, Nat.le_trans hS.1 hsz, fun q h1 h2 => (hk q (Nat.lt_of_lt_of_le h1 hS.1)).trans (hS.2.1 q h1 h2)⟩) hS.2.2 (by decide) (by decide)

set_option maxHeartbeats 4000000 in
set_option maxRecDepth 100000 in
theorem c_X0_checkNotNull (l : Launch) {x : Int32} (hok : ¬ x = -1) : Met l yX0_checkNotNull wsX0_checkNotNull ({ frames := 0, cells := 0, slots := 0, locals := 0 }) (fun v _ => v = ([.int x] : List Value).toArray) hw_Qn 0 0 (fun _ => False) := by
  refine Met.ofW (cc := cX0_checkNotNull) (maxL := 1) (ret := none) (by decide) rfl ?_
  intro p e s m args below meth c s₁ B hml hv
  subst hv
  have hx := B.exec
  have hb := B.bytes
  have hr := B.returns
  have hts : ∀ w ∈ wb, w.before _ s = true := fun w h => atoms_spec (ws := wsX0_checkNotNull) B.pre w (List.mem_cons_of_mem _ h)
  have hown : s.vm.findClass RX0 = some m.cls := findClass_of_methodNamed B.named
  have hlocks := B.notSynchronized
  have hl := lv_entry ([.int x]) (n := 1) (Nat.le_of_ble_eq_true rfl)
  rw [lg_entry_eq]
  generalize (lg_sl ([.int x]) ++ List.replicate (1 - (lg_sl ([.int x])).length) Slot.unset).toArray = ls at hl ⊢
  have hl : lv_has ls 1 [(0, .int x)] := hl
  refine lv_iload_n hx hb dX0_checkNotNull_0 rfl (lv_at hl 0 rfl) ?_
  refine lv_iconst (v := (-1)) hx hb dX0_checkNotNull_1 (by decide) ?_
  refine lv_icmp_ne hx hb dX0_checkNotNull_2 (tgt := 15) (by decide) (fun hc => ?_) (fun hc => ?_)
  · skip
    exact W.vret hx hb hr (fun t ht hWm => ⟨rfl, ht⟩) (fun q h => nomatch h) dX0_checkNotNull_15
  · exact absurd hc hok

set_option maxHeartbeats 4000000 in
set_option maxRecDepth 100000 in
theorem x_X0_checkNotNull (l : Launch) (hl9 : l.stackTraces = false) (dC : Nat → ClassId) (dI : Nat → Nat → Nat) (sz : Nat) {x : Int32} (hbad : x = -1) : vx_Met l yX0_checkNotNull wsX0_checkNotNull ({ frames := 6, cells := 1, slots := 6, locals := 90 }) (va_Pc [.int x] (hx_pre (dC, dI) vwCl [] [] sz)) (fun _ _ _ _ => False) (vx_X (fun _ : Unit => True) (fun E _ _ => E = hz_N) (va_A [] sz)) 1 6 (va_A [] sz) := by
  refine vx_ofW (cc := cX0_checkNotNull) (maxL := 1) (ret := none) (by decide) rfl ?_
  intro p e s m args below meth c s₁ B hml hEx hv
  obtain ⟨hargs, hsz, hP, hK, hD0, hZ⟩ := hv
  have hx := B.exec
  have hb := B.bytes
  have hr := B.returns
  have hts : ∀ w ∈ wb, w.before _ s = true := fun w h => atoms_spec (ws := wsX0_checkNotNull) B.pre w (List.mem_cons_of_mem _ h)
  have hown : s.vm.findClass RX0 = some m.cls := findClass_of_methodNamed B.named
  have hlocks := B.notSynchronized
  subst hsz
  have hD := hD0.self (sz := s.heap.size)
  generalize hAe : va_A [] s.heap.size = A at hD hZ ⊢
  have hA : ∀ q : Nat, s.heap.size ≤ q → A q := fun q h => by rw [← hAe]; exact Or.inr h
  have hS : va_S A s.heap s.heap [] := va_S.rf
  generalize hQ9 : vx_MQ below (fun _ _ _ _ => False) (vx_X (fun _ : Unit => True) (fun E _ _ => E = hz_N) A) args s 1 6 A = Q9
  have hl := lv_entry ([.int x]) (n := 1) (Nat.le_of_ble_eq_true rfl)
  rw [show entryFrame m args 1 = _ from (congrArg (fun z => entryFrame m z 1) hargs).trans (lg_entry_eq m [.int x] 1)]
  generalize (lg_sl ([.int x]) ++ List.replicate (1 - (lg_sl ([.int x])).length) Slot.unset).toArray = ls at hl ⊢
  have hl : lv_has ls 1 [(0, .int x)] := hl
  obtain ⟨H, hH⟩ : ∃ H, H = s.heap := ⟨_, rfl⟩
  rw [← hH] at hP
  have hS : va_S A s.heap H [] := by rw [hH]; exact hS
  rw [← hH]
  generalize ([] : List Loc) = locs at hS ⊢
  refine lv_iload_n hx hb dX0_checkNotNull_0 rfl (lv_at hl 0 rfl) ?_
  refine lv_iconst (v := (-1)) hx hb dX0_checkNotNull_1 (by decide) ?_
  refine lv_icmp_ne hx hb dX0_checkNotNull_2 (tgt := 15) (by decide) (fun hc => ?_) (fun hc => ?_)
  · exact absurd hbad hc
  · skip
    subst hQ9
    obtain ⟨q9, hq9⟩ := hZ.2.2.2.2.2.2.1
    exact hz_throw (own := RX0) (cls := hz_N) (sup := "java/lang/RuntimeException") (names := ["java/lang/Exception"]) hx hb hl9 hz_b0 hz_b1 hz_b2 hz_b5 (by decide +kernel) hown (by decide +kernel) (by decide +kernel) (hts _ bw_cl_X0_85) (hts _ bw_in_java_util_NoSuchElementException) hq9 (hz_at89 hts hZ) (by decide +kernel) hZ.1 hZ.2.1 hS (hl.1.trans hml.symm) dX0_checkNotNull_5 dX0_checkNotNull_8 dX0_checkNotNull_9 dX0_checkNotNull_11 dX0_checkNotNull_14 (fun x hx => (hEx x hx).elim) (Nat.le_of_ble_eq_true rfl) (Nat.le_of_ble_eq_true rfl) (by decide) (by decide) hlocks (fun t ha hsz hk => ⟨(), trivial, rfl, Nat.le_trans hS.1 hsz, fun q h1 h2 => (hk q (Nat.lt_of_lt_of_le h1 hS.1)).trans (hS.2.1 q h1 h2)⟩) hS.2.2 (by decide) (by decide)
end
section
theorem hp_hd : ∀ n, n < 41 → ∀ k, k < 4 → ((nI n <<< ((2 : Int32) &&& 31)) ||| nI k).toInt64 = lN (4 * n + k) := by decide +kernel
theorem hp_ri {T n : Nat} (hT : T ≤ 300) (hn : n ≤ 40) : (if nI T + 1 + nI n ≤ 300 then (1 : Int32) else 0) = if T + (1 + n) ≤ 300 then 1 else 0 := by
  have e : nI T + 1 + nI n = nI (T + (1 + n)) := by rw [nI_1, nI_add]; congr 1; omega
  rw [e]
  have h : (nI (T + (1 + n)) ≤ 300) ↔ T + (1 + n) ≤ 300 := nI_leI (b := 300) (by omega) (by decide)
  by_cases h2 : T + (1 + n) ≤ 300
  · rw [if_pos h2, if_pos (h.mpr h2)]
  · rw [if_neg h2, if_neg (fun z => h2 (h.mp z))]
theorem hp_rt {T n : Nat} (h : T + (1 + n) ≤ 300) : (if T + (1 + n) ≤ 300 then (1 : Int32) else 0) = 1 := if_pos h
theorem hp_rf {T n : Nat} (h : ¬ T + (1 + n) ≤ 300) : (if T + (1 + n) ≤ 300 then (1 : Int32) else 0) = 0 := if_neg h
theorem hp_rm_t {M : hp_S} {n : Nat} (h : hp_tk M + (1 + n) ≤ 300) : hp_rm M n = M := if_pos h
theorem hp_rm_f {M : hp_S} {n : Nat} (h : ¬ hp_tk M + (1 + n) ≤ 300) : hp_rm M n = hp_col M := if_neg h
theorem hp_10 : ¬ (1 : Int32) = 0 := by decide
end
section
set_option maxHeartbeats 4000000 in
set_option maxRecDepth 100000 in
/-- takeCells(kind, n), where there is room -/
theorem c_X0_takeCells (l : Launch) (dC : Nat → ClassId) (dI : Nat → Nat → Nat) (h0 a1 a2 a3 a4 : Nat) (c1 c2 c3 c4 : ClassId) (ce : Nat → Int64) (rg : Nat → Int32) (tk ob co : Int32) (re : Nat → Int32) (rc : Int32) (np : Nat → Int32) (sz : Nat) (M : hp_S) (hW : hp_W M) (hC : hp_C M ce rg tk ob co) (k n : Nat) (hk4 : k < 4) (hn : n ≤ 40) (hfit : hp_tk (hp_rm M n) + (1 + n) ≤ 300) : Met l yX0_takeCells wsX0_takeCells ({ frames := 5, cells := 0, slots := 0, locals := 111 }) (va_Pc [.ref h0, .int (nI k), .int (nI n)] (hw_pre (dC, dI) vwCl [(c1, .long), (c2, .int), (c3, .int), (c4, .int)] [(h0, .inr (0, [.ref a1, .ref a2, .int tk, .int ob, .int co, .ref a3, .int rc, .ref a4])), (a1, .inl (c1, 300, .inr (.inl ce))), (a2, .inl (c2, 16, .inl rg)), (a3, .inl (c3, 300, .inl re)), (a4, .inl (c4, 300, .inl np))] sz)) (va_Qi (fun (r : Int32) (u : (Nat → Int64) × (Nat → Int32) × Int32 × Int32 × Int32 × (Nat → Int32) × Int32 × (Nat → Int32)) => r = nI (hp_tk (hp_rm M n)) ∧ ∃ ce1 tk1 ob1, hp_C (hp_rm M n) ce1 u.2.1 tk1 ob1 u.2.2.2.2.1 ∧ u.1 = vp_updL ce1 (hp_tk (hp_rm M n)) (lN (4 * n + k)) ∧ u.2.2.1 = nI (hp_tk (hp_rm M n) + (1 + n)) ∧ u.2.2.2.1 = nI ((hp_L (hp_rm M n)).length + 1)) (fun u t => hw_B (dC, dI) vwCl [(c1, .long), (c2, .int), (c3, .int), (c4, .int)] (va_A [(h0, .inr (0, [.ref a1, .ref a2, .int tk, .int ob, .int co, .ref a3, .int rc, .ref a4])), (a1, .inl (c1, 300, .inr (.inl ce))), (a2, .inl (c2, 16, .inl rg)), (a3, .inl (c3, 300, .inl re)), (a4, .inl (c4, 300, .inl np))] sz) ((fun u : (Nat → Int64) × (Nat → Int32) × Int32 × Int32 × Int32 × (Nat → Int32) × Int32 × (Nat → Int32) => [(h0, .inr (0, [.ref a1, .ref a2, .int u.2.2.1, .int u.2.2.2.1, .int u.2.2.2.2.1, .ref a3, .int u.2.2.2.2.2.2.1, .ref a4])), (a1, .inl (c1, 300, .inr (.inl u.1))), (a2, .inl (c2, 16, .inl u.2.1)), (a3, .inl (c3, 300, .inl u.2.2.2.2.2.1)), (a4, .inl (c4, 300, .inl u.2.2.2.2.2.2.2))]) u) t) (va_A [(h0, .inr (0, [.ref a1, .ref a2, .int tk, .int ob, .int co, .ref a3, .int rc, .ref a4])), (a1, .inl (c1, 300, .inr (.inl ce))), (a2, .inl (c2, 16, .inl rg)), (a3, .inl (c3, 300, .inl re)), (a4, .inl (c4, 300, .inl np))] sz)) 0 0 (va_A [(h0, .inr (0, [.ref a1, .ref a2, .int tk, .int ob, .int co, .ref a3, .int rc, .ref a4])), (a1, .inl (c1, 300, .inr (.inl ce))), (a2, .inl (c2, 16, .inl rg)), (a3, .inl (c3, 300, .inl re)), (a4, .inl (c4, 300, .inl np))] sz) := by
  refine Met.ofW (cc := cX0_takeCells) (maxL := 4) (ret := some .int) (by decide) rfl ?_
  intro p e s m args below meth c s₁ B hml hv
  obtain ⟨hargs, hsz, hP, hK, hD0⟩ := hv
  have hx := B.exec
  have hb := B.bytes
  have hr := B.returns
  have hts : ∀ w ∈ wb, w.before _ s = true := fun w h => atoms_spec (ws := wsX0_takeCells) B.pre w (List.mem_cons_of_mem _ h)
  have hown : s.vm.findClass RX0 = some m.cls := findClass_of_methodNamed B.named
  have hlocks := B.notSynchronized
  subst hsz
  have hD := hD0.self (sz := s.heap.size)
  generalize hAe : va_A [(h0, .inr (0, [.ref a1, .ref a2, .int tk, .int ob, .int co, .ref a3, .int rc, .ref a4])), (a1, .inl (c1, 300, .inr (.inl ce))), (a2, .inl (c2, 16, .inl rg)), (a3, .inl (c3, 300, .inl re)), (a4, .inl (c4, 300, .inl np))] s.heap.size = A at hD ⊢
  have hA : ∀ q : Nat, s.heap.size ≤ q → A q := fun q h => by rw [← hAe]; exact Or.inr h
  have hS : va_S A s.heap s.heap [] := va_S.rf
  generalize hQ9 : MQ below (va_Qi (fun (r : Int32) (u : (Nat → Int64) × (Nat → Int32) × Int32 × Int32 × Int32 × (Nat → Int32) × Int32 × (Nat → Int32)) => r = nI (hp_tk (hp_rm M n)) ∧ ∃ ce1 tk1 ob1, hp_C (hp_rm M n) ce1 u.2.1 tk1 ob1 u.2.2.2.2.1 ∧ u.1 = vp_updL ce1 (hp_tk (hp_rm M n)) (lN (4 * n + k)) ∧ u.2.2.1 = nI (hp_tk (hp_rm M n) + (1 + n)) ∧ u.2.2.2.1 = nI ((hp_L (hp_rm M n)).length + 1)) (fun u t => hw_B (dC, dI) vwCl [(c1, .long), (c2, .int), (c3, .int), (c4, .int)] A ((fun u : (Nat → Int64) × (Nat → Int32) × Int32 × Int32 × Int32 × (Nat → Int32) × Int32 × (Nat → Int32) => [(h0, .inr (0, [.ref a1, .ref a2, .int u.2.2.1, .int u.2.2.2.1, .int u.2.2.2.2.1, .ref a3, .int u.2.2.2.2.2.2.1, .ref a4])), (a1, .inl (c1, 300, .inr (.inl u.1))), (a2, .inl (c2, 16, .inl u.2.1)), (a3, .inl (c3, 300, .inl u.2.2.2.2.2.1)), (a4, .inl (c4, 300, .inl u.2.2.2.2.2.2.2))]) u) t) A) args s 0 0 A = Q9
  have hl := lv_entry ([.ref h0, .int (nI k), .int (nI n)]) (n := 4) (Nat.le_of_ble_eq_true rfl)
  rw [show entryFrame m args 4 = _ from (congrArg (fun z => entryFrame m z 4) hargs).trans (lg_entry_eq m [.ref h0, .int (nI k), .int (nI n)] 4)]
  generalize (lg_sl ([.ref h0, .int (nI k), .int (nI n)]) ++ List.replicate (4 - (lg_sl ([.ref h0, .int (nI k), .int (nI n)])).length) Slot.unset).toArray = ls at hl ⊢
  have hl : lv_has ls 4 [(0, .ref h0), (1, .int (nI k)), (2, .int (nI n))] := hl
  obtain ⟨H, hH⟩ : ∃ H, H = s.heap := ⟨_, rfl⟩
  rw [← hH] at hP
  have hS : va_S A s.heap H [] := by rw [hH]; exact hS
  rw [← hH]
  generalize ([] : List Loc) = locs at hS ⊢
  have hW1 := hp_rm_W hW n
  have hT := hW.2.2.2.2.2
  have hT1 := hW1.2.2.2.2.2
  have tail : ∀ (ce : Nat → Int64) (rg : Nat → Int32) (tk : Int32) (ob : Int32) (co : Int32) (re : Nat → Int32) (rc : Int32) (np : Nat → Int32) (H : Heap) (locs : List Loc) (ls : Array Slot), (hp_C (hp_rm M n) ce rg tk ob co) → va_P (dC, dI) vwCl [(h0, .inr (0, [.ref a1, .ref a2, .int tk, .int ob, .int co, .ref a3, .int rc, .ref a4])), (a1, .inl (c1, 300, .inr (.inl ce))), (a2, .inl (c2, 16, .inl rg)), (a3, .inl (c3, 300, .inl re)), (a4, .inl (c4, 300, .inl np))] H → va_D A [(h0, .inr (0, [.ref a1, .ref a2, .int tk, .int ob, .int co, .ref a3, .int rc, .ref a4])), (a1, .inl (c1, 300, .inr (.inl ce))), (a2, .inl (c2, 16, .inl rg)), (a3, .inl (c3, 300, .inl re)), (a4, .inl (c4, 300, .inl np))] → va_S A s.heap H locs → lv_has ls 4 [(0, .ref h0), (1, .int (nI k)), (2, .int (nI n))] → W p l e (headSpec wsX0_takeCells ({ frames := 5, cells := 0, slots := 0, locals := 111 })).room s m args below meth c H locs 0 0 Q9 (F0 m 12 ls []) := by
    intro ce rg tk ob co re rc np H locs ls hI hP hD hS hl
    refine lv_aload_n hx hb dX0_takeCells_12 rfl (lv_at hl 0 rfl) ?_
    refine lv_iload_n hx hb dX0_takeCells_13 rfl (lv_at hl 2 rfl) ?_
    refine W.callR (W.runV (As := [.int (nI n)]) (rest := []) ⟨hx, hb, hml, hown, hts⟩ (c_X0_hasRoom l dC dI h0 a1 a2 a3 a4 c1 c2 c3 c4 ce rg tk ob co re rc np _ (nI n)) (cwV 1 hts gw_X0_90 rfl rfl rfl ⟨rfl, by decide, by decide, by decide +kernel⟩ ⟨Nat.le_of_ble_eq_true rfl, Nat.le_of_ble_eq_true rfl⟩) ⟨hw_blind, va_recv (q0 := 0) (ci := 0) (q := (RX0, TX0, 8)) hK hP rfl rfl, hw_pay hP hK hD⟩ rfl rfl hl.1 rfl (lv_room (Nat.le_of_ble_eq_true rfl)) dX0_takeCells_14 ⟨by decide, by decide⟩) ?_
    refine W.eq (g2 := F0 m 17 ls [.int (if tk + 1 + nI n ≤ 300 then 1 else 0)]) rfl ?_
    refine hw_topi (y := if hp_tk (hp_rm M n) + (1 + n) ≤ 300 then 1 else 0) (by rw [hI.1]; exact hp_ri hT1 hn) ?_
    refine lv_if_ne hx hb dX0_takeCells_17 (tgt := 30) (by decide) (fun hc => ?_) (fun hc => ?_)
    · skip
      refine lv_aload_n hx hb dX0_takeCells_30 rfl (lv_at hl 0 rfl) ?_
      refine va_get (D := (dC, dI)) (ci := 0) (v := .int tk) (C := RX0) (T := TX0) (N := 8) hx hb hts inX0 hown hK hP 0 rfl rfl 2 (by decide) (hts _ bw_fl_X0_17) (fun _ h9 => h9) rfl dX0_takeCells_31 ?_
      refine lv_istore_n hx hb dX0_takeCells_34 rfl hl (by decide) rfl (fun ls hl => ?_)
      have hl : lv_has ls 4 [(3, .int tk), (0, .ref h0), (1, .int (nI k)), (2, .int (nI n))] := hl
      refine lv_aload_n hx hb dX0_takeCells_35 rfl (lv_at hl 1 rfl) ?_
      refine va_get (D := (dC, dI)) (ci := 0) (v := .ref a1) (C := RX0) (T := TX0) (N := 8) hx hb hts inX0 hown hK hP 0 rfl rfl 0 (by decide) (hts _ bw_fl_X0_9) (fun _ h9 => h9) rfl dX0_takeCells_36 ?_
      refine lv_iload_n hx hb dX0_takeCells_39 rfl (lv_at hl 0 rfl) ?_
      refine lv_iload_n hx hb dX0_takeCells_40 rfl (lv_at hl 3 rfl) ?_
      refine lv_iconst (v := 2) hx hb dX0_takeCells_41 (by decide) ?_
      refine lv_ishl hx hb dX0_takeCells_42 ?_
      refine lv_iload_n hx hb dX0_takeCells_43 rfl (lv_at hl 2 rfl) ?_
      refine lv_ior hx hb dX0_takeCells_44 ?_
      refine lv_i2l hx hb dX0_takeCells_45 rfl ?_
      refine hw_topl (y := lN (4 * n + k)) (hp_hd n (by omega) k hk4) ?_
      refine hw_last (j := hp_tk (hp_rm M n)) hx hb hK hP hD hS 1 0 rfl rfl (hI.1) (by omega) (by decide) dX0_takeCells_46 (fun H locs hP hD hS => ?_)
      have hP : va_P (dC, dI) vwCl [(h0, .inr (0, [.ref a1, .ref a2, .int tk, .int ob, .int co, .ref a3, .int rc, .ref a4])), (a1, .inl (c1, 300, .inr (.inl (vp_updL ce (hp_tk (hp_rm M n)) (lN (4 * n + k)))))), (a2, .inl (c2, 16, .inl rg)), (a3, .inl (c3, 300, .inl re)), (a4, .inl (c4, 300, .inl np))] H := hP
      have hD : va_D A [(h0, .inr (0, [.ref a1, .ref a2, .int tk, .int ob, .int co, .ref a3, .int rc, .ref a4])), (a1, .inl (c1, 300, .inr (.inl (vp_updL ce (hp_tk (hp_rm M n)) (lN (4 * n + k)))))), (a2, .inl (c2, 16, .inl rg)), (a3, .inl (c3, 300, .inl re)), (a4, .inl (c4, 300, .inl np))] := hD
      refine lv_aload_n hx hb dX0_takeCells_47 rfl (lv_at hl 1 rfl) ?_
      refine lv_dup hx hb dX0_takeCells_48 rfl ?_
      refine va_get (D := (dC, dI)) (ci := 0) (v := .int tk) (C := RX0) (T := TX0) (N := 8) hx hb hts inX0 hown hK hP 0 rfl rfl 2 (by decide) (hts _ bw_fl_X0_17) (fun _ h9 => h9) rfl dX0_takeCells_49 ?_
      refine lv_iconst (v := 1) hx hb dX0_takeCells_52 (by decide) ?_
      refine lv_iload_n hx hb dX0_takeCells_53 rfl (lv_at hl 3 rfl) ?_
      refine lv_iadd hx hb dX0_takeCells_54 ?_
      refine lv_iadd hx hb dX0_takeCells_55 ?_
      refine hw_topi (y := nI (hp_tk (hp_rm M n) + (1 + n))) (by rw [hI.1, hp_1a, nI_add]) ?_
      refine va_put (D := (dC, dI)) (ci := 0) (v := .int (nI (hp_tk (hp_rm M n) + (1 + n)))) (ty := .int) (C := RX0) (T := TX0) (N := 8) hx hb hts inX0 tyX0 tyX0_ok nmX0 hown hK hP hD hS 0 rfl rfl 2 (by decide) (hts _ bw_fl_X0_17) (fun _ h9 => h9) rfl (by decide +kernel) rfl rfl (Nat.le_of_ble_eq_true rfl) dX0_takeCells_56 (fun H locs hP hD hS => ?_)
      have hP : va_P (dC, dI) vwCl [(h0, .inr (0, [.ref a1, .ref a2, .int (nI (hp_tk (hp_rm M n) + (1 + n))), .int ob, .int co, .ref a3, .int rc, .ref a4])), (a1, .inl (c1, 300, .inr (.inl (vp_updL ce (hp_tk (hp_rm M n)) (lN (4 * n + k)))))), (a2, .inl (c2, 16, .inl rg)), (a3, .inl (c3, 300, .inl re)), (a4, .inl (c4, 300, .inl np))] H := hP
      have hD : va_D A [(h0, .inr (0, [.ref a1, .ref a2, .int (nI (hp_tk (hp_rm M n) + (1 + n))), .int ob, .int co, .ref a3, .int rc, .ref a4])), (a1, .inl (c1, 300, .inr (.inl (vp_updL ce (hp_tk (hp_rm M n)) (lN (4 * n + k)))))), (a2, .inl (c2, 16, .inl rg)), (a3, .inl (c3, 300, .inl re)), (a4, .inl (c4, 300, .inl np))] := hD
      refine lv_aload_n hx hb dX0_takeCells_59 rfl (lv_at hl 1 rfl) ?_
      refine lv_dup hx hb dX0_takeCells_60 rfl ?_
      refine va_get (D := (dC, dI)) (ci := 0) (v := .int ob) (C := RX0) (T := TX0) (N := 8) hx hb hts inX0 hown hK hP 0 rfl rfl 3 (by decide) (hts _ bw_fl_X0_21) (fun _ h9 => h9) rfl dX0_takeCells_61 ?_
      refine lv_iconst (v := 1) hx hb dX0_takeCells_64 (by decide) ?_
      refine lv_iadd hx hb dX0_takeCells_65 ?_
      refine hw_topi (y := nI ((hp_L (hp_rm M n)).length + 1)) (by rw [hI.2.1]; exact nI_1 _) ?_
      refine va_put (D := (dC, dI)) (ci := 0) (v := .int (nI ((hp_L (hp_rm M n)).length + 1))) (ty := .int) (C := RX0) (T := TX0) (N := 8) hx hb hts inX0 tyX0 tyX0_ok nmX0 hown hK hP hD hS 0 rfl rfl 3 (by decide) (hts _ bw_fl_X0_21) (fun _ h9 => h9) rfl (by decide +kernel) rfl rfl (Nat.le_of_ble_eq_true rfl) dX0_takeCells_66 (fun H locs hP hD hS => ?_)
      have hP : va_P (dC, dI) vwCl [(h0, .inr (0, [.ref a1, .ref a2, .int (nI (hp_tk (hp_rm M n) + (1 + n))), .int (nI ((hp_L (hp_rm M n)).length + 1)), .int co, .ref a3, .int rc, .ref a4])), (a1, .inl (c1, 300, .inr (.inl (vp_updL ce (hp_tk (hp_rm M n)) (lN (4 * n + k)))))), (a2, .inl (c2, 16, .inl rg)), (a3, .inl (c3, 300, .inl re)), (a4, .inl (c4, 300, .inl np))] H := hP
      have hD : va_D A [(h0, .inr (0, [.ref a1, .ref a2, .int (nI (hp_tk (hp_rm M n) + (1 + n))), .int (nI ((hp_L (hp_rm M n)).length + 1)), .int co, .ref a3, .int rc, .ref a4])), (a1, .inl (c1, 300, .inr (.inl (vp_updL ce (hp_tk (hp_rm M n)) (lN (4 * n + k)))))), (a2, .inl (c2, 16, .inl rg)), (a3, .inl (c3, 300, .inl re)), (a4, .inl (c4, 300, .inl np))] := hD
      refine lv_iload_n hx hb dX0_takeCells_69 rfl (lv_at hl 0 rfl) ?_
      subst hQ9
      exact W.iret (v := tk) hx hb hr (fun t ht hWm => ⟨⟨tk, ((vp_updL ce (hp_tk (hp_rm M n)) (lN (4 * n + k))), rg, (nI (hp_tk (hp_rm M n) + (1 + n))), (nI ((hp_L (hp_rm M n)).length + 1)), co, re, rc, np), rfl, ⟨hI.1, ce, tk, ob, hI, rfl, rfl, rfl⟩, by rw [ht]; exact hP, va_K.moved hWm.alike hK, hD⟩, hS.F ht⟩) hS.2.2 dX0_takeCells_70
    · exact absurd ((hp_rt hfit).symm.trans hc) hp_10
  refine lv_aload_n hx hb dX0_takeCells_0 rfl (lv_at hl 0 rfl) ?_
  refine lv_iload_n hx hb dX0_takeCells_1 rfl (lv_at hl 2 rfl) ?_
  refine W.callR (W.runV (As := [.int (nI n)]) (rest := []) ⟨hx, hb, hml, hown, hts⟩ (c_X0_hasRoom l dC dI h0 a1 a2 a3 a4 c1 c2 c3 c4 ce rg tk ob co re rc np _ (nI n)) (cwV 1 hts gw_X0_90 rfl rfl rfl ⟨rfl, by decide, by decide, by decide +kernel⟩ ⟨Nat.le_of_ble_eq_true rfl, Nat.le_of_ble_eq_true rfl⟩) ⟨hw_blind, va_recv (q0 := 0) (ci := 0) (q := (RX0, TX0, 8)) hK hP rfl rfl, hw_pay hP hK hD⟩ rfl rfl hl.1 rfl (lv_room (Nat.le_of_ble_eq_true rfl)) dX0_takeCells_2 ⟨by decide, by decide⟩) ?_
  refine W.eq (g2 := F0 m 5 ls [.int (if tk + 1 + nI n ≤ 300 then 1 else 0)]) rfl ?_
  refine hw_topi (y := if hp_tk M + (1 + n) ≤ 300 then 1 else 0) (by rw [hC.1]; exact hp_ri hT hn) ?_
  refine lv_if_ne hx hb dX0_takeCells_5 (tgt := 12) (by decide) (fun hc => ?_) (fun hc => ?_)
  · have hf : hp_tk M + (1 + n) ≤ 300 := Classical.byContradiction fun h9 => hc (hp_rf h9)
    exact tail ce rg tk ob co re rc np H locs ls (by rw [hp_rm_t hf]; exact hC) hP hD hS (lv_sub hl [0, 1, 2] rfl)
  · have hf : ¬ hp_tk M + (1 + n) ≤ 300 := fun h9 => hp_10 ((hp_rt h9).symm.trans hc)
    refine lv_aload_n hx hb dX0_takeCells_8 rfl (lv_at hl 0 rfl) ?_
    refine hw_callv (va_runV (As := []) (rest := []) ⟨hx, hb, hml, hown, hts⟩ (c_X0_pressTogether l dC dI h0 a1 a2 a3 a4 c1 c2 c3 c4 ce rg tk ob co re rc np _ M hW hC) (cwV 0 hts gw_X0_73 rfl rfl rfl ⟨rfl, by decide, by decide, by decide +kernel⟩ ⟨Nat.le_of_ble_eq_true rfl, Nat.le_of_ble_eq_true rfl⟩) ⟨hw_blind, va_recv (q0 := 0) (ci := 0) (q := (RX0, TX0, 8)) hK hP rfl rfl, hw_pay hP hK hD⟩ rfl rfl hl.1 rfl (lv_room (Nat.le_of_ble_eq_true rfl)) dX0_takeCells_9 ⟨by decide, by decide⟩) hD hS hA (fun u9 H locs hw hP hD hS => ?_)
    obtain ⟨ce, rg, tk, ob, co, re, rc, np⟩ := u9
    have hP : va_P (dC, dI) vwCl [(h0, .inr (0, [.ref a1, .ref a2, .int tk, .int ob, .int co, .ref a3, .int rc, .ref a4])), (a1, .inl (c1, 300, .inr (.inl ce))), (a2, .inl (c2, 16, .inl rg)), (a3, .inl (c3, 300, .inl re)), (a4, .inl (c4, 300, .inl np))] H := hP
    have hD : va_D A [(h0, .inr (0, [.ref a1, .ref a2, .int tk, .int ob, .int co, .ref a3, .int rc, .ref a4])), (a1, .inl (c1, 300, .inr (.inl ce))), (a2, .inl (c2, 16, .inl rg)), (a3, .inl (c3, 300, .inl re)), (a4, .inl (c4, 300, .inl np))] := hD
    exact tail ce rg tk ob co re rc np H locs ls (by rw [hp_rm_f hf]; exact hw) hP hD hS (lv_sub hl [0, 1, 2] rfl)

set_option maxHeartbeats 4000000 in
set_option maxRecDepth 100000 in
theorem x_X0_takeCells (l : Launch) (dC : Nat → ClassId) (dI : Nat → Nat → Nat) (h0 a1 a2 a3 a4 : Nat) (c1 c2 c3 c4 : ClassId) (ce : Nat → Int64) (rg : Nat → Int32) (tk ob co : Int32) (re : Nat → Int32) (rc : Int32) (np : Nat → Int32) (sz : Nat) (hl9 : l.stackTraces = false) (M : hp_S) (hW : hp_W M) (hC : hp_C M ce rg tk ob co) (k n : Nat) (hk4 : k < 4) (hn : n ≤ 40) (hfull : ¬ hp_tk (hp_rm M n) + (1 + n) ≤ 300) : vx_Met l yX0_takeCells wsX0_takeCells ({ frames := 6, cells := 1, slots := 6, locals := 111 }) (va_Pc [.ref h0, .int (nI k), .int (nI n)] (hx_pre (dC, dI) vwCl [(c1, .long), (c2, .int), (c3, .int), (c4, .int)] [(h0, .inr (0, [.ref a1, .ref a2, .int tk, .int ob, .int co, .ref a3, .int rc, .ref a4])), (a1, .inl (c1, 300, .inr (.inl ce))), (a2, .inl (c2, 16, .inl rg)), (a3, .inl (c3, 300, .inl re)), (a4, .inl (c4, 300, .inl np))] sz)) (fun _ _ _ _ => False) (vx_X (fun _ : (Nat → Int64) × (Nat → Int32) × Int32 × Int32 × Int32 × (Nat → Int32) × Int32 × (Nat → Int32) => True) (fun E u t => (fun (E : String) (u : (Nat → Int64) × (Nat → Int32) × Int32 × Int32 × Int32 × (Nat → Int32) × Int32 × (Nat → Int32)) => E = hz_I ∧ hp_C (hp_rm M n) u.1 u.2.1 u.2.2.1 u.2.2.2.1 u.2.2.2.2.1) E u ∧ hw_B (dC, dI) vwCl [(c1, .long), (c2, .int), (c3, .int), (c4, .int)] (va_A [(h0, .inr (0, [.ref a1, .ref a2, .int tk, .int ob, .int co, .ref a3, .int rc, .ref a4])), (a1, .inl (c1, 300, .inr (.inl ce))), (a2, .inl (c2, 16, .inl rg)), (a3, .inl (c3, 300, .inl re)), (a4, .inl (c4, 300, .inl np))] sz) ((fun u : (Nat → Int64) × (Nat → Int32) × Int32 × Int32 × Int32 × (Nat → Int32) × Int32 × (Nat → Int32) => [(h0, .inr (0, [.ref a1, .ref a2, .int u.2.2.1, .int u.2.2.2.1, .int u.2.2.2.2.1, .ref a3, .int u.2.2.2.2.2.2.1, .ref a4])), (a1, .inl (c1, 300, .inr (.inl u.1))), (a2, .inl (c2, 16, .inl u.2.1)), (a3, .inl (c3, 300, .inl u.2.2.2.2.2.1)), (a4, .inl (c4, 300, .inl u.2.2.2.2.2.2.2))]) u) t) (va_A [(h0, .inr (0, [.ref a1, .ref a2, .int tk, .int ob, .int co, .ref a3, .int rc, .ref a4])), (a1, .inl (c1, 300, .inr (.inl ce))), (a2, .inl (c2, 16, .inl rg)), (a3, .inl (c3, 300, .inl re)), (a4, .inl (c4, 300, .inl np))] sz)) 1 6 (va_A [(h0, .inr (0, [.ref a1, .ref a2, .int tk, .int ob, .int co, .ref a3, .int rc, .ref a4])), (a1, .inl (c1, 300, .inr (.inl ce))), (a2, .inl (c2, 16, .inl rg)), (a3, .inl (c3, 300, .inl re)), (a4, .inl (c4, 300, .inl np))] sz) := by
  refine vx_ofW (cc := cX0_takeCells) (maxL := 4) (ret := some .int) (by decide) rfl ?_
  intro p e s m args below meth c s₁ B hml hEx hv
  obtain ⟨hargs, hsz, hP, hK, hD0, hZ⟩ := hv
  have hx := B.exec
  have hb := B.bytes
  have hr := B.returns
  have hts : ∀ w ∈ wb, w.before _ s = true := fun w h => atoms_spec (ws := wsX0_takeCells) B.pre w (List.mem_cons_of_mem _ h)
  have hown : s.vm.findClass RX0 = some m.cls := findClass_of_methodNamed B.named
  have hlocks := B.notSynchronized
  subst hsz
  have hD := hD0.self (sz := s.heap.size)
  generalize hAe : va_A [(h0, .inr (0, [.ref a1, .ref a2, .int tk, .int ob, .int co, .ref a3, .int rc, .ref a4])), (a1, .inl (c1, 300, .inr (.inl ce))), (a2, .inl (c2, 16, .inl rg)), (a3, .inl (c3, 300, .inl re)), (a4, .inl (c4, 300, .inl np))] s.heap.size = A at hD hZ ⊢
  have hA : ∀ q : Nat, s.heap.size ≤ q → A q := fun q h => by rw [← hAe]; exact Or.inr h
  have hS : va_S A s.heap s.heap [] := va_S.rf
  generalize hQ9 : vx_MQ below (fun _ _ _ _ => False) (vx_X (fun _ : (Nat → Int64) × (Nat → Int32) × Int32 × Int32 × Int32 × (Nat → Int32) × Int32 × (Nat → Int32) => True) (fun E u t => (fun (E : String) (u : (Nat → Int64) × (Nat → Int32) × Int32 × Int32 × Int32 × (Nat → Int32) × Int32 × (Nat → Int32)) => E = hz_I ∧ hp_C (hp_rm M n) u.1 u.2.1 u.2.2.1 u.2.2.2.1 u.2.2.2.2.1) E u ∧ hw_B (dC, dI) vwCl [(c1, .long), (c2, .int), (c3, .int), (c4, .int)] A ((fun u : (Nat → Int64) × (Nat → Int32) × Int32 × Int32 × Int32 × (Nat → Int32) × Int32 × (Nat → Int32) => [(h0, .inr (0, [.ref a1, .ref a2, .int u.2.2.1, .int u.2.2.2.1, .int u.2.2.2.2.1, .ref a3, .int u.2.2.2.2.2.2.1, .ref a4])), (a1, .inl (c1, 300, .inr (.inl u.1))), (a2, .inl (c2, 16, .inl u.2.1)), (a3, .inl (c3, 300, .inl u.2.2.2.2.2.1)), (a4, .inl (c4, 300, .inl u.2.2.2.2.2.2.2))]) u) t) A) args s 1 6 A = Q9
  have hl := lv_entry ([.ref h0, .int (nI k), .int (nI n)]) (n := 4) (Nat.le_of_ble_eq_true rfl)
  rw [show entryFrame m args 4 = _ from (congrArg (fun z => entryFrame m z 4) hargs).trans (lg_entry_eq m [.ref h0, .int (nI k), .int (nI n)] 4)]
  generalize (lg_sl ([.ref h0, .int (nI k), .int (nI n)]) ++ List.replicate (4 - (lg_sl ([.ref h0, .int (nI k), .int (nI n)])).length) Slot.unset).toArray = ls at hl ⊢
  have hl : lv_has ls 4 [(0, .ref h0), (1, .int (nI k)), (2, .int (nI n))] := hl
  obtain ⟨H, hH⟩ : ∃ H, H = s.heap := ⟨_, rfl⟩
  rw [← hH] at hP
  have hS : va_S A s.heap H [] := by rw [hH]; exact hS
  rw [← hH]
  generalize ([] : List Loc) = locs at hS ⊢
  have hW1 := hp_rm_W hW n
  have hT := hW.2.2.2.2.2
  have hT1 := hW1.2.2.2.2.2
  have tail : ∀ (ce : Nat → Int64) (rg : Nat → Int32) (tk : Int32) (ob : Int32) (co : Int32) (re : Nat → Int32) (rc : Int32) (np : Nat → Int32) (H : Heap) (locs : List Loc) (ls : Array Slot), (hp_C (hp_rm M n) ce rg tk ob co) → va_P (dC, dI) vwCl [(h0, .inr (0, [.ref a1, .ref a2, .int tk, .int ob, .int co, .ref a3, .int rc, .ref a4])), (a1, .inl (c1, 300, .inr (.inl ce))), (a2, .inl (c2, 16, .inl rg)), (a3, .inl (c3, 300, .inl re)), (a4, .inl (c4, 300, .inl np))] H → va_D A [(h0, .inr (0, [.ref a1, .ref a2, .int tk, .int ob, .int co, .ref a3, .int rc, .ref a4])), (a1, .inl (c1, 300, .inr (.inl ce))), (a2, .inl (c2, 16, .inl rg)), (a3, .inl (c3, 300, .inl re)), (a4, .inl (c4, 300, .inl np))] → va_S A s.heap H locs → lv_has ls 4 [(0, .ref h0), (1, .int (nI k)), (2, .int (nI n))] → W p l e (headSpec wsX0_takeCells ({ frames := 6, cells := 1, slots := 6, locals := 111 })).room s m args below meth c H locs 0 0 Q9 (F0 m 12 ls []) := by
    intro ce rg tk ob co re rc np H locs ls hI hP hD hS hl
    refine lv_aload_n hx hb dX0_takeCells_12 rfl (lv_at hl 0 rfl) ?_
    refine lv_iload_n hx hb dX0_takeCells_13 rfl (lv_at hl 2 rfl) ?_
    refine W.callR (W.runV (As := [.int (nI n)]) (rest := []) ⟨hx, hb, hml, hown, hts⟩ (c_X0_hasRoom l dC dI h0 a1 a2 a3 a4 c1 c2 c3 c4 ce rg tk ob co re rc np _ (nI n)) (cwV 1 hts gw_X0_90 rfl rfl rfl ⟨rfl, by decide, by decide, by decide +kernel⟩ ⟨Nat.le_of_ble_eq_true rfl, Nat.le_of_ble_eq_true rfl⟩) ⟨hw_blind, va_recv (q0 := 0) (ci := 0) (q := (RX0, TX0, 8)) hK hP rfl rfl, hw_pay hP hK hD⟩ rfl rfl hl.1 rfl (lv_room (Nat.le_of_ble_eq_true rfl)) dX0_takeCells_14 ⟨by decide, by decide⟩) ?_
    refine W.eq (g2 := F0 m 17 ls [.int (if tk + 1 + nI n ≤ 300 then 1 else 0)]) rfl ?_
    refine hw_topi (y := if hp_tk (hp_rm M n) + (1 + n) ≤ 300 then 1 else 0) (by rw [hI.1]; exact hp_ri hT1 hn) ?_
    refine lv_if_ne hx hb dX0_takeCells_17 (tgt := 30) (by decide) (fun hc => ?_) (fun hc => ?_)
    · exact absurd (hp_rf hfull) hc
    · skip
      subst hQ9
      obtain ⟨q9, hq9⟩ := hZ.2.2.2.2.2.2.2
      exact vx_throwS (own := RX0) (cls := hz_I) (names := hz_up) hx hb hl9 hown (by decide +kernel) (by decide +kernel) (hts _ bw_cl_X0_94) (hts _ bw_in_java_lang_IllegalStateException) hq9 (hz_at98 hts hZ) (by decide +kernel) hZ.1 hZ.2.1 hS (hl.1.trans hml.symm) dX0_takeCells_20 dX0_takeCells_23 dX0_takeCells_24 dX0_takeCells_26 dX0_takeCells_29 (fun x hx => (hEx x hx).elim) (Nat.le_of_ble_eq_true rfl) (Nat.le_of_ble_eq_true rfl) (by decide) (by decide) hlocks (fun t ha hsz hk => ⟨(ce, rg, tk, ob, co, re, rc, np), trivial, ⟨⟨rfl, hI⟩, hP.kept (fun k q hq => hk q.1 (hP k q hq).lt), va_K.moved ha hK, hD⟩, Nat.le_trans hS.1 hsz, fun q h1 h2 => (hk q (Nat.lt_of_lt_of_le h1 hS.1)).trans (hS.2.1 q h1 h2)⟩) hS.2.2 (by decide) (by decide)
  refine lv_aload_n hx hb dX0_takeCells_0 rfl (lv_at hl 0 rfl) ?_
  refine lv_iload_n hx hb dX0_takeCells_1 rfl (lv_at hl 2 rfl) ?_
  refine W.callR (W.runV (As := [.int (nI n)]) (rest := []) ⟨hx, hb, hml, hown, hts⟩ (c_X0_hasRoom l dC dI h0 a1 a2 a3 a4 c1 c2 c3 c4 ce rg tk ob co re rc np _ (nI n)) (cwV 1 hts gw_X0_90 rfl rfl rfl ⟨rfl, by decide, by decide, by decide +kernel⟩ ⟨Nat.le_of_ble_eq_true rfl, Nat.le_of_ble_eq_true rfl⟩) ⟨hw_blind, va_recv (q0 := 0) (ci := 0) (q := (RX0, TX0, 8)) hK hP rfl rfl, hw_pay hP hK hD⟩ rfl rfl hl.1 rfl (lv_room (Nat.le_of_ble_eq_true rfl)) dX0_takeCells_2 ⟨by decide, by decide⟩) ?_
  refine W.eq (g2 := F0 m 5 ls [.int (if tk + 1 + nI n ≤ 300 then 1 else 0)]) rfl ?_
  refine hw_topi (y := if hp_tk M + (1 + n) ≤ 300 then 1 else 0) (by rw [hC.1]; exact hp_ri hT hn) ?_
  refine lv_if_ne hx hb dX0_takeCells_5 (tgt := 12) (by decide) (fun hc => ?_) (fun hc => ?_)
  · have hf : hp_tk M + (1 + n) ≤ 300 := Classical.byContradiction fun h9 => hc (hp_rf h9)
    exact tail ce rg tk ob co re rc np H locs ls (by rw [hp_rm_t hf]; exact hC) hP hD hS (lv_sub hl [0, 1, 2] rfl)
  · have hf : ¬ hp_tk M + (1 + n) ≤ 300 := fun h9 => hp_10 ((hp_rt h9).symm.trans hc)
    refine lv_aload_n hx hb dX0_takeCells_8 rfl (lv_at hl 0 rfl) ?_
    refine hw_callv (va_runV (As := []) (rest := []) ⟨hx, hb, hml, hown, hts⟩ (c_X0_pressTogether l dC dI h0 a1 a2 a3 a4 c1 c2 c3 c4 ce rg tk ob co re rc np _ M hW hC) (cwV 0 hts gw_X0_73 rfl rfl rfl ⟨rfl, by decide, by decide, by decide +kernel⟩ ⟨Nat.le_of_ble_eq_true rfl, Nat.le_of_ble_eq_true rfl⟩) ⟨hw_blind, va_recv (q0 := 0) (ci := 0) (q := (RX0, TX0, 8)) hK hP rfl rfl, hw_pay hP hK hD⟩ rfl rfl hl.1 rfl (lv_room (Nat.le_of_ble_eq_true rfl)) dX0_takeCells_9 ⟨by decide, by decide⟩) hD hS hA (fun u9 H locs hw hP hD hS => ?_)
    obtain ⟨ce, rg, tk, ob, co, re, rc, np⟩ := u9
    have hP : va_P (dC, dI) vwCl [(h0, .inr (0, [.ref a1, .ref a2, .int tk, .int ob, .int co, .ref a3, .int rc, .ref a4])), (a1, .inl (c1, 300, .inr (.inl ce))), (a2, .inl (c2, 16, .inl rg)), (a3, .inl (c3, 300, .inl re)), (a4, .inl (c4, 300, .inl np))] H := hP
    have hD : va_D A [(h0, .inr (0, [.ref a1, .ref a2, .int tk, .int ob, .int co, .ref a3, .int rc, .ref a4])), (a1, .inl (c1, 300, .inr (.inl ce))), (a2, .inl (c2, 16, .inl rg)), (a3, .inl (c3, 300, .inl re)), (a4, .inl (c4, 300, .inl np))] := hD
    exact tail ce rg tk ob co re rc np H locs ls (by rw [hp_rm_f hf]; exact hw) hP hD hS (lv_sub hl [0, 1, 2] rfl)
end
section
/-- codes of a call with registers: 1 where one is bad, else as hp_cd says -/
def hp_lk (M : hp_S) (bad : Prop) (o : Nat) (i : Int32) (ok : Prop) (k : Nat) : Prop := (bad ∧ k = 1) ∨ (¬ bad ∧ hp_cd M o i ok k)
theorem hp_lk_u {M : hp_S} {bad : Prop} {o : Nat} {i : Int32} {ok : Prop} {k k' : Nat} (h : hp_lk M bad o i ok k) (h' : hp_lk M bad o i ok k') : k = k' := by
  rcases h with ⟨a, b⟩ | ⟨a, b⟩ <;> rcases h' with ⟨a', b'⟩ | ⟨a', b'⟩
  · omega
  · exact absurd a a'
  · exact absurd a' a
  · exact hp_cd_u b b'
/-- which exception a code is, where missing is 2 -/
def hp_E2 (E : String) (k : Nat) : Prop := (E = hz_A ∧ k = 1) ∨ (E = hz_N ∧ k = 2)
theorem hp_ok' {x : Int32} (h : ¬ hp_bad x 16) : ∃ j, j < 16 ∧ x = nI j := hp_ok h (by decide)
theorem hp_null {M : hp_S} (hW : hp_W M) {o : Nat} (ho : o = 0 ∨ o ∈ hp_L M) : hp_e M o = -1 ↔ o = 0 := by
  constructor
  · intro h
    refine Classical.byContradiction fun h0 => ?_
    rw [hp_en h0] at h
    exact hp_neg1 (by have := hp_pl_lt hW (ho.resolve_left h0); omega) h
  · intro h; rw [h]; exact hp_e0 M
end
section
set_option maxHeartbeats 4000000 in
set_option maxRecDepth 100000 in
theorem c_X0_drop (l : Launch) (dC : Nat → ClassId) (dI : Nat → Nat → Nat) (h0 a1 a2 a3 a4 : Nat) (c1 c2 c3 c4 : ClassId) (ce : Nat → Int64) (rg : Nat → Int32) (tk ob co : Int32) (re : Nat → Int32) (rc : Int32) (np : Nat → Int32) (sz : Nat) (M : hp_S) (hW : hp_W M) (hC : hp_C M ce rg tk ob co) (j : Nat) (hj : j < 16) : Met l yX0_drop wsX0_drop ({ frames := 2, cells := 0, slots := 0, locals := 41 }) (va_Pc [.ref h0, .int (nI j)] (hw_pre (dC, dI) vwCl [(c1, .long), (c2, .int), (c3, .int), (c4, .int)] [(h0, .inr (0, [.ref a1, .ref a2, .int tk, .int ob, .int co, .ref a3, .int rc, .ref a4])), (a1, .inl (c1, 300, .inr (.inl ce))), (a2, .inl (c2, 16, .inl rg)), (a3, .inl (c3, 300, .inl re)), (a4, .inl (c4, 300, .inl np))] sz)) (va_Qv (fun u : Nat → Int32 => hp_C (hp_sr M j 0) ce u tk ob co) (fun u t => hw_B (dC, dI) vwCl [(c1, .long), (c2, .int), (c3, .int), (c4, .int)] (va_A [(h0, .inr (0, [.ref a1, .ref a2, .int tk, .int ob, .int co, .ref a3, .int rc, .ref a4])), (a1, .inl (c1, 300, .inr (.inl ce))), (a2, .inl (c2, 16, .inl rg)), (a3, .inl (c3, 300, .inl re)), (a4, .inl (c4, 300, .inl np))] sz) ((fun u : Nat → Int32 => [(h0, .inr (0, [.ref a1, .ref a2, .int tk, .int ob, .int co, .ref a3, .int rc, .ref a4])), (a1, .inl (c1, 300, .inr (.inl ce))), (a2, .inl (c2, 16, .inl u)), (a3, .inl (c3, 300, .inl re)), (a4, .inl (c4, 300, .inl np))]) u) t) (va_A [(h0, .inr (0, [.ref a1, .ref a2, .int tk, .int ob, .int co, .ref a3, .int rc, .ref a4])), (a1, .inl (c1, 300, .inr (.inl ce))), (a2, .inl (c2, 16, .inl rg)), (a3, .inl (c3, 300, .inl re)), (a4, .inl (c4, 300, .inl np))] sz)) 0 0 (va_A [(h0, .inr (0, [.ref a1, .ref a2, .int tk, .int ob, .int co, .ref a3, .int rc, .ref a4])), (a1, .inl (c1, 300, .inr (.inl ce))), (a2, .inl (c2, 16, .inl rg)), (a3, .inl (c3, 300, .inl re)), (a4, .inl (c4, 300, .inl np))] sz) := by
  refine Met.ofW (cc := cX0_drop) (maxL := 2) (ret := none) (by decide) rfl ?_
  intro p e s m args below meth c s₁ B hml hv
  obtain ⟨hargs, hsz, hP, hK, hD0⟩ := hv
  have hx := B.exec
  have hb := B.bytes
  have hr := B.returns
  have hts : ∀ w ∈ wb, w.before _ s = true := fun w h => atoms_spec (ws := wsX0_drop) B.pre w (List.mem_cons_of_mem _ h)
  have hown : s.vm.findClass RX0 = some m.cls := findClass_of_methodNamed B.named
  have hlocks := B.notSynchronized
  subst hsz
  have hD := hD0.self (sz := s.heap.size)
  generalize hAe : va_A [(h0, .inr (0, [.ref a1, .ref a2, .int tk, .int ob, .int co, .ref a3, .int rc, .ref a4])), (a1, .inl (c1, 300, .inr (.inl ce))), (a2, .inl (c2, 16, .inl rg)), (a3, .inl (c3, 300, .inl re)), (a4, .inl (c4, 300, .inl np))] s.heap.size = A at hD ⊢
  have hA : ∀ q : Nat, s.heap.size ≤ q → A q := fun q h => by rw [← hAe]; exact Or.inr h
  have hS : va_S A s.heap s.heap [] := va_S.rf
  generalize hQ9 : MQ below (va_Qv (fun u : Nat → Int32 => hp_C (hp_sr M j 0) ce u tk ob co) (fun u t => hw_B (dC, dI) vwCl [(c1, .long), (c2, .int), (c3, .int), (c4, .int)] A ((fun u : Nat → Int32 => [(h0, .inr (0, [.ref a1, .ref a2, .int tk, .int ob, .int co, .ref a3, .int rc, .ref a4])), (a1, .inl (c1, 300, .inr (.inl ce))), (a2, .inl (c2, 16, .inl u)), (a3, .inl (c3, 300, .inl re)), (a4, .inl (c4, 300, .inl np))]) u) t) A) args s 0 0 A = Q9
  have hl := lv_entry ([.ref h0, .int (nI j)]) (n := 2) (Nat.le_of_ble_eq_true rfl)
  rw [show entryFrame m args 2 = _ from (congrArg (fun z => entryFrame m z 2) hargs).trans (lg_entry_eq m [.ref h0, .int (nI j)] 2)]
  generalize (lg_sl ([.ref h0, .int (nI j)]) ++ List.replicate (2 - (lg_sl ([.ref h0, .int (nI j)])).length) Slot.unset).toArray = ls at hl ⊢
  have hl : lv_has ls 2 [(0, .ref h0), (1, .int (nI j))] := hl
  obtain ⟨H, hH⟩ : ∃ H, H = s.heap := ⟨_, rfl⟩
  rw [← hH] at hP
  have hS : va_S A s.heap H [] := by rw [hH]; exact hS
  rw [← hH]
  generalize ([] : List Loc) = locs at hS ⊢
  refine lv_iload_n hx hb dX0_drop_0 rfl (lv_at hl 1 rfl) ?_
  refine hw_callN (W.runS (As := [.int (nI j)]) (rest := []) ⟨hx, hb, hml, hown, hts⟩ (c_X0_checkRegister l (hp_ok2 hj (by decide))) (va_cwS 1 hts gw_X0_42 rfl rfl rfl ⟨by decide, by decide, by decide +kernel⟩ ⟨Nat.le_of_ble_eq_true rfl, Nat.le_of_ble_eq_true rfl⟩) preEq rfl rfl hl.1 rfl (lv_room (Nat.le_of_ble_eq_true rfl)) dX0_drop_1 ⟨by decide, by decide⟩) ?_
  refine lv_aload_n hx hb dX0_drop_4 rfl (lv_at hl 0 rfl) ?_
  refine va_get (D := (dC, dI)) (ci := 0) (v := .ref a2) (C := RX0) (T := TX0) (N := 8) hx hb hts inX0 hown hK hP 0 rfl rfl 1 (by decide) (hts _ bw_fl_X0_13) (fun _ h9 => h9) rfl dX0_drop_5 ?_
  refine lv_iload_n hx hb dX0_drop_8 rfl (lv_at hl 1 rfl) ?_
  refine lv_iconst (v := (-1)) hx hb dX0_drop_9 (by decide) ?_
  refine hw_iast (j := j) hx hb hK hP hD hS 2 1 rfl rfl (rfl) (hj) (by decide) dX0_drop_10 (fun H locs hP hD hS => ?_)
  have hP : va_P (dC, dI) vwCl [(h0, .inr (0, [.ref a1, .ref a2, .int tk, .int ob, .int co, .ref a3, .int rc, .ref a4])), (a1, .inl (c1, 300, .inr (.inl ce))), (a2, .inl (c2, 16, .inl (upd rg j (-1)))), (a3, .inl (c3, 300, .inl re)), (a4, .inl (c4, 300, .inl np))] H := hP
  have hD : va_D A [(h0, .inr (0, [.ref a1, .ref a2, .int tk, .int ob, .int co, .ref a3, .int rc, .ref a4])), (a1, .inl (c1, 300, .inr (.inl ce))), (a2, .inl (c2, 16, .inl (upd rg j (-1)))), (a3, .inl (c3, 300, .inl re)), (a4, .inl (c4, 300, .inl np))] := hD
  subst hQ9
  exact W.vret hx hb hr (fun t ht hWm => ⟨⟨(upd rg j (-1)), rfl, hp_sr_C hC j 0, by rw [ht]; exact hP, va_K.moved hWm.alike hK, hD⟩, hS.F ht⟩) hS.2.2 dX0_drop_11

set_option maxHeartbeats 4000000 in
set_option maxRecDepth 100000 in
theorem x_X0_drop (l : Launch) (dC : Nat → ClassId) (dI : Nat → Nat → Nat) (h0 a1 a2 a3 a4 : Nat) (c1 c2 c3 c4 : ClassId) (ce : Nat → Int64) (rg : Nat → Int32) (tk ob co : Int32) (re : Nat → Int32) (rc : Int32) (np : Nat → Int32) (sz : Nat) (hl9 : l.stackTraces = false) (r : Int32) (hbad : hp_bad r 16) : vx_Met l yX0_drop wsX0_drop ({ frames := 8, cells := 1, slots := 6, locals := 131 }) (va_Pc [.ref h0, .int r] (hx_pre (dC, dI) vwCl [(c1, .long), (c2, .int), (c3, .int), (c4, .int)] [(h0, .inr (0, [.ref a1, .ref a2, .int tk, .int ob, .int co, .ref a3, .int rc, .ref a4])), (a1, .inl (c1, 300, .inr (.inl ce))), (a2, .inl (c2, 16, .inl rg)), (a3, .inl (c3, 300, .inl re)), (a4, .inl (c4, 300, .inl np))] sz)) (fun _ _ _ _ => False) (vx_X (fun _ : Unit => True) (fun E u t => (fun (E : String) (_ : Unit) => E = hz_A) E u ∧ hw_B (dC, dI) vwCl [(c1, .long), (c2, .int), (c3, .int), (c4, .int)] (va_A [(h0, .inr (0, [.ref a1, .ref a2, .int tk, .int ob, .int co, .ref a3, .int rc, .ref a4])), (a1, .inl (c1, 300, .inr (.inl ce))), (a2, .inl (c2, 16, .inl rg)), (a3, .inl (c3, 300, .inl re)), (a4, .inl (c4, 300, .inl np))] sz) ((fun _ : Unit => [(h0, .inr (0, [.ref a1, .ref a2, .int tk, .int ob, .int co, .ref a3, .int rc, .ref a4])), (a1, .inl (c1, 300, .inr (.inl ce))), (a2, .inl (c2, 16, .inl rg)), (a3, .inl (c3, 300, .inl re)), (a4, .inl (c4, 300, .inl np))]) u) t) (va_A [(h0, .inr (0, [.ref a1, .ref a2, .int tk, .int ob, .int co, .ref a3, .int rc, .ref a4])), (a1, .inl (c1, 300, .inr (.inl ce))), (a2, .inl (c2, 16, .inl rg)), (a3, .inl (c3, 300, .inl re)), (a4, .inl (c4, 300, .inl np))] sz)) 1 6 (va_A [(h0, .inr (0, [.ref a1, .ref a2, .int tk, .int ob, .int co, .ref a3, .int rc, .ref a4])), (a1, .inl (c1, 300, .inr (.inl ce))), (a2, .inl (c2, 16, .inl rg)), (a3, .inl (c3, 300, .inl re)), (a4, .inl (c4, 300, .inl np))] sz) := by
  refine vx_ofW (cc := cX0_drop) (maxL := 2) (ret := none) (by decide) rfl ?_
  intro p e s m args below meth c s₁ B hml hEx hv
  obtain ⟨hargs, hsz, hP, hK, hD0, hZ⟩ := hv
  have hx := B.exec
  have hb := B.bytes
  have hr := B.returns
  have hts : ∀ w ∈ wb, w.before _ s = true := fun w h => atoms_spec (ws := wsX0_drop) B.pre w (List.mem_cons_of_mem _ h)
  have hown : s.vm.findClass RX0 = some m.cls := findClass_of_methodNamed B.named
  have hlocks := B.notSynchronized
  subst hsz
  have hD := hD0.self (sz := s.heap.size)
  generalize hAe : va_A [(h0, .inr (0, [.ref a1, .ref a2, .int tk, .int ob, .int co, .ref a3, .int rc, .ref a4])), (a1, .inl (c1, 300, .inr (.inl ce))), (a2, .inl (c2, 16, .inl rg)), (a3, .inl (c3, 300, .inl re)), (a4, .inl (c4, 300, .inl np))] s.heap.size = A at hD hZ ⊢
  have hA : ∀ q : Nat, s.heap.size ≤ q → A q := fun q h => by rw [← hAe]; exact Or.inr h
  have hS : va_S A s.heap s.heap [] := va_S.rf
  generalize hQ9 : vx_MQ below (fun _ _ _ _ => False) (vx_X (fun _ : Unit => True) (fun E u t => (fun (E : String) (_ : Unit) => E = hz_A) E u ∧ hw_B (dC, dI) vwCl [(c1, .long), (c2, .int), (c3, .int), (c4, .int)] A ((fun _ : Unit => [(h0, .inr (0, [.ref a1, .ref a2, .int tk, .int ob, .int co, .ref a3, .int rc, .ref a4])), (a1, .inl (c1, 300, .inr (.inl ce))), (a2, .inl (c2, 16, .inl rg)), (a3, .inl (c3, 300, .inl re)), (a4, .inl (c4, 300, .inl np))]) u) t) A) args s 1 6 A = Q9
  have hl := lv_entry ([.ref h0, .int r]) (n := 2) (Nat.le_of_ble_eq_true rfl)
  rw [show entryFrame m args 2 = _ from (congrArg (fun z => entryFrame m z 2) hargs).trans (lg_entry_eq m [.ref h0, .int r] 2)]
  generalize (lg_sl ([.ref h0, .int r]) ++ List.replicate (2 - (lg_sl ([.ref h0, .int r])).length) Slot.unset).toArray = ls at hl ⊢
  have hl : lv_has ls 2 [(0, .ref h0), (1, .int r)] := hl
  obtain ⟨H, hH⟩ : ∃ H, H = s.heap := ⟨_, rfl⟩
  rw [← hH] at hP
  have hS : va_S A s.heap H [] := by rw [hH]; exact hS
  rw [← hH]
  generalize ([] : List Loc) = locs at hS ⊢
  refine lv_iload_n hx hb dX0_drop_0 rfl (lv_at hl 1 rfl) ?_
  refine hx_throws (vx_runS (As := [.int r]) (rest := []) ⟨hx, hb, hml, hown, hts⟩ (x_X0_checkRegister l hl9 dC dI _ hbad) (va_cwS 1 hts gw_X0_42 rfl rfl rfl ⟨by decide, by decide, by decide +kernel⟩ ⟨Nat.le_of_ble_eq_true rfl, Nat.le_of_ble_eq_true rfl⟩) ⟨hx_blind, hx_pay hx_P0 (hK.sub (tys' := []) [] rfl) hx_D0 hS hA hZ⟩ rfl rfl hl.1 rfl (lv_room (Nat.le_of_ble_eq_true rfl)) dX0_drop_1 ⟨by decide, by decide⟩) hP hS hA (fun E ce9 q9 H locs hb9 hP hS h1 h2 h3 => ?_)
  subst hQ9
  exact vx_out (fun x hx => (hEx x hx).elim) hlocks h1 h2 h3 (fun t ht ha => ⟨(), trivial, ⟨hb9, by rw [ht]; exact hP, va_K.moved ha hK, hD⟩, hS.F ht⟩) hS.2.2 (Nat.le_of_ble_eq_true rfl) (Nat.le_of_ble_eq_true rfl)

set_option maxHeartbeats 4000000 in
set_option maxRecDepth 100000 in
theorem c_X0_copy (l : Launch) (dC : Nat → ClassId) (dI : Nat → Nat → Nat) (h0 a1 a2 a3 a4 : Nat) (c1 c2 c3 c4 : ClassId) (ce : Nat → Int64) (rg : Nat → Int32) (tk ob co : Int32) (re : Nat → Int32) (rc : Int32) (np : Nat → Int32) (sz : Nat) (M : hp_S) (hW : hp_W M) (hC : hp_C M ce rg tk ob co) (j i : Nat) (hj : j < 16) (hi : i < 16) : Met l yX0_copy wsX0_copy ({ frames := 2, cells := 0, slots := 0, locals := 41 }) (va_Pc [.ref h0, .int (nI j), .int (nI i)] (hw_pre (dC, dI) vwCl [(c1, .long), (c2, .int), (c3, .int), (c4, .int)] [(h0, .inr (0, [.ref a1, .ref a2, .int tk, .int ob, .int co, .ref a3, .int rc, .ref a4])), (a1, .inl (c1, 300, .inr (.inl ce))), (a2, .inl (c2, 16, .inl rg)), (a3, .inl (c3, 300, .inl re)), (a4, .inl (c4, 300, .inl np))] sz)) (va_Qv (fun u : Nat → Int32 => hp_C (hp_sr M j (hp_r M i)) ce u tk ob co) (fun u t => hw_B (dC, dI) vwCl [(c1, .long), (c2, .int), (c3, .int), (c4, .int)] (va_A [(h0, .inr (0, [.ref a1, .ref a2, .int tk, .int ob, .int co, .ref a3, .int rc, .ref a4])), (a1, .inl (c1, 300, .inr (.inl ce))), (a2, .inl (c2, 16, .inl rg)), (a3, .inl (c3, 300, .inl re)), (a4, .inl (c4, 300, .inl np))] sz) ((fun u : Nat → Int32 => [(h0, .inr (0, [.ref a1, .ref a2, .int tk, .int ob, .int co, .ref a3, .int rc, .ref a4])), (a1, .inl (c1, 300, .inr (.inl ce))), (a2, .inl (c2, 16, .inl u)), (a3, .inl (c3, 300, .inl re)), (a4, .inl (c4, 300, .inl np))]) u) t) (va_A [(h0, .inr (0, [.ref a1, .ref a2, .int tk, .int ob, .int co, .ref a3, .int rc, .ref a4])), (a1, .inl (c1, 300, .inr (.inl ce))), (a2, .inl (c2, 16, .inl rg)), (a3, .inl (c3, 300, .inl re)), (a4, .inl (c4, 300, .inl np))] sz)) 0 0 (va_A [(h0, .inr (0, [.ref a1, .ref a2, .int tk, .int ob, .int co, .ref a3, .int rc, .ref a4])), (a1, .inl (c1, 300, .inr (.inl ce))), (a2, .inl (c2, 16, .inl rg)), (a3, .inl (c3, 300, .inl re)), (a4, .inl (c4, 300, .inl np))] sz) := by
  refine Met.ofW (cc := cX0_copy) (maxL := 3) (ret := none) (by decide) rfl ?_
  intro p e s m args below meth c s₁ B hml hv
  obtain ⟨hargs, hsz, hP, hK, hD0⟩ := hv
  have hx := B.exec
  have hb := B.bytes
  have hr := B.returns
  have hts : ∀ w ∈ wb, w.before _ s = true := fun w h => atoms_spec (ws := wsX0_copy) B.pre w (List.mem_cons_of_mem _ h)
  have hown : s.vm.findClass RX0 = some m.cls := findClass_of_methodNamed B.named
  have hlocks := B.notSynchronized
  subst hsz
  have hD := hD0.self (sz := s.heap.size)
  generalize hAe : va_A [(h0, .inr (0, [.ref a1, .ref a2, .int tk, .int ob, .int co, .ref a3, .int rc, .ref a4])), (a1, .inl (c1, 300, .inr (.inl ce))), (a2, .inl (c2, 16, .inl rg)), (a3, .inl (c3, 300, .inl re)), (a4, .inl (c4, 300, .inl np))] s.heap.size = A at hD ⊢
  have hA : ∀ q : Nat, s.heap.size ≤ q → A q := fun q h => by rw [← hAe]; exact Or.inr h
  have hS : va_S A s.heap s.heap [] := va_S.rf
  generalize hQ9 : MQ below (va_Qv (fun u : Nat → Int32 => hp_C (hp_sr M j (hp_r M i)) ce u tk ob co) (fun u t => hw_B (dC, dI) vwCl [(c1, .long), (c2, .int), (c3, .int), (c4, .int)] A ((fun u : Nat → Int32 => [(h0, .inr (0, [.ref a1, .ref a2, .int tk, .int ob, .int co, .ref a3, .int rc, .ref a4])), (a1, .inl (c1, 300, .inr (.inl ce))), (a2, .inl (c2, 16, .inl u)), (a3, .inl (c3, 300, .inl re)), (a4, .inl (c4, 300, .inl np))]) u) t) A) args s 0 0 A = Q9
  have hl := lv_entry ([.ref h0, .int (nI j), .int (nI i)]) (n := 3) (Nat.le_of_ble_eq_true rfl)
  rw [show entryFrame m args 3 = _ from (congrArg (fun z => entryFrame m z 3) hargs).trans (lg_entry_eq m [.ref h0, .int (nI j), .int (nI i)] 3)]
  generalize (lg_sl ([.ref h0, .int (nI j), .int (nI i)]) ++ List.replicate (3 - (lg_sl ([.ref h0, .int (nI j), .int (nI i)])).length) Slot.unset).toArray = ls at hl ⊢
  have hl : lv_has ls 3 [(0, .ref h0), (1, .int (nI j)), (2, .int (nI i))] := hl
  obtain ⟨H, hH⟩ : ∃ H, H = s.heap := ⟨_, rfl⟩
  rw [← hH] at hP
  have hS : va_S A s.heap H [] := by rw [hH]; exact hS
  rw [← hH]
  generalize ([] : List Loc) = locs at hS ⊢
  refine lv_iload_n hx hb dX0_copy_0 rfl (lv_at hl 1 rfl) ?_
  refine hw_callN (W.runS (As := [.int (nI j)]) (rest := []) ⟨hx, hb, hml, hown, hts⟩ (c_X0_checkRegister l (hp_ok2 hj (by decide))) (va_cwS 1 hts gw_X0_42 rfl rfl rfl ⟨by decide, by decide, by decide +kernel⟩ ⟨Nat.le_of_ble_eq_true rfl, Nat.le_of_ble_eq_true rfl⟩) preEq rfl rfl hl.1 rfl (lv_room (Nat.le_of_ble_eq_true rfl)) dX0_copy_1 ⟨by decide, by decide⟩) ?_
  refine lv_iload_n hx hb dX0_copy_4 rfl (lv_at hl 2 rfl) ?_
  refine hw_callN (W.runS (As := [.int (nI i)]) (rest := []) ⟨hx, hb, hml, hown, hts⟩ (c_X0_checkRegister l (hp_ok2 hi (by decide))) (va_cwS 1 hts gw_X0_42 rfl rfl rfl ⟨by decide, by decide, by decide +kernel⟩ ⟨Nat.le_of_ble_eq_true rfl, Nat.le_of_ble_eq_true rfl⟩) preEq rfl rfl hl.1 rfl (lv_room (Nat.le_of_ble_eq_true rfl)) dX0_copy_5 ⟨by decide, by decide⟩) ?_
  refine lv_aload_n hx hb dX0_copy_8 rfl (lv_at hl 0 rfl) ?_
  refine va_get (D := (dC, dI)) (ci := 0) (v := .ref a2) (C := RX0) (T := TX0) (N := 8) hx hb hts inX0 hown hK hP 0 rfl rfl 1 (by decide) (hts _ bw_fl_X0_13) (fun _ h9 => h9) rfl dX0_copy_9 ?_
  refine lv_iload_n hx hb dX0_copy_12 rfl (lv_at hl 1 rfl) ?_
  refine lv_aload_n hx hb dX0_copy_13 rfl (lv_at hl 0 rfl) ?_
  refine va_get (D := (dC, dI)) (ci := 0) (v := .ref a2) (C := RX0) (T := TX0) (N := 8) hx hb hts inX0 hown hK hP 0 rfl rfl 1 (by decide) (hts _ bw_fl_X0_13) (fun _ h9 => h9) rfl dX0_copy_14 ?_
  refine lv_iload_n hx hb dX0_copy_17 rfl (lv_at hl 2 rfl) ?_
  refine hw_iald (j := i) hx hb hK hP 2 1 rfl rfl (rfl) (hi) (by decide) dX0_copy_18 ?_
  refine hw_topi (y := hp_e M (hp_r M i)) (hC.2.2.2.1 i hi) ?_
  refine hw_iast (j := j) hx hb hK hP hD hS 2 1 rfl rfl (rfl) (hj) (by decide) dX0_copy_19 (fun H locs hP hD hS => ?_)
  have hP : va_P (dC, dI) vwCl [(h0, .inr (0, [.ref a1, .ref a2, .int tk, .int ob, .int co, .ref a3, .int rc, .ref a4])), (a1, .inl (c1, 300, .inr (.inl ce))), (a2, .inl (c2, 16, .inl (upd rg j (hp_e M (hp_r M i))))), (a3, .inl (c3, 300, .inl re)), (a4, .inl (c4, 300, .inl np))] H := hP
  have hD : va_D A [(h0, .inr (0, [.ref a1, .ref a2, .int tk, .int ob, .int co, .ref a3, .int rc, .ref a4])), (a1, .inl (c1, 300, .inr (.inl ce))), (a2, .inl (c2, 16, .inl (upd rg j (hp_e M (hp_r M i))))), (a3, .inl (c3, 300, .inl re)), (a4, .inl (c4, 300, .inl np))] := hD
  subst hQ9
  exact W.vret hx hb hr (fun t ht hWm => ⟨⟨(upd rg j (hp_e M (hp_r M i))), rfl, hp_sr_C hC j _, by rw [ht]; exact hP, va_K.moved hWm.alike hK, hD⟩, hS.F ht⟩) hS.2.2 dX0_copy_20

set_option maxHeartbeats 4000000 in
set_option maxRecDepth 100000 in
theorem x_X0_copy (l : Launch) (dC : Nat → ClassId) (dI : Nat → Nat → Nat) (h0 a1 a2 a3 a4 : Nat) (c1 c2 c3 c4 : ClassId) (ce : Nat → Int64) (rg : Nat → Int32) (tk ob co : Int32) (re : Nat → Int32) (rc : Int32) (np : Nat → Int32) (sz : Nat) (hl9 : l.stackTraces = false) (r t : Int32) (hbad : hp_bad r 16 ∨ hp_bad t 16) : vx_Met l yX0_copy wsX0_copy ({ frames := 8, cells := 1, slots := 6, locals := 131 }) (va_Pc [.ref h0, .int r, .int t] (hx_pre (dC, dI) vwCl [(c1, .long), (c2, .int), (c3, .int), (c4, .int)] [(h0, .inr (0, [.ref a1, .ref a2, .int tk, .int ob, .int co, .ref a3, .int rc, .ref a4])), (a1, .inl (c1, 300, .inr (.inl ce))), (a2, .inl (c2, 16, .inl rg)), (a3, .inl (c3, 300, .inl re)), (a4, .inl (c4, 300, .inl np))] sz)) (fun _ _ _ _ => False) (vx_X (fun _ : Unit => True) (fun E u t => (fun (E : String) (_ : Unit) => E = hz_A) E u ∧ hw_B (dC, dI) vwCl [(c1, .long), (c2, .int), (c3, .int), (c4, .int)] (va_A [(h0, .inr (0, [.ref a1, .ref a2, .int tk, .int ob, .int co, .ref a3, .int rc, .ref a4])), (a1, .inl (c1, 300, .inr (.inl ce))), (a2, .inl (c2, 16, .inl rg)), (a3, .inl (c3, 300, .inl re)), (a4, .inl (c4, 300, .inl np))] sz) ((fun _ : Unit => [(h0, .inr (0, [.ref a1, .ref a2, .int tk, .int ob, .int co, .ref a3, .int rc, .ref a4])), (a1, .inl (c1, 300, .inr (.inl ce))), (a2, .inl (c2, 16, .inl rg)), (a3, .inl (c3, 300, .inl re)), (a4, .inl (c4, 300, .inl np))]) u) t) (va_A [(h0, .inr (0, [.ref a1, .ref a2, .int tk, .int ob, .int co, .ref a3, .int rc, .ref a4])), (a1, .inl (c1, 300, .inr (.inl ce))), (a2, .inl (c2, 16, .inl rg)), (a3, .inl (c3, 300, .inl re)), (a4, .inl (c4, 300, .inl np))] sz)) 1 6 (va_A [(h0, .inr (0, [.ref a1, .ref a2, .int tk, .int ob, .int co, .ref a3, .int rc, .ref a4])), (a1, .inl (c1, 300, .inr (.inl ce))), (a2, .inl (c2, 16, .inl rg)), (a3, .inl (c3, 300, .inl re)), (a4, .inl (c4, 300, .inl np))] sz) := by
  refine vx_ofW (cc := cX0_copy) (maxL := 3) (ret := none) (by decide) rfl ?_
  intro p e s m args below meth c s₁ B hml hEx hv
  obtain ⟨hargs, hsz, hP, hK, hD0, hZ⟩ := hv
  have hx := B.exec
  have hb := B.bytes
  have hr := B.returns
  have hts : ∀ w ∈ wb, w.before _ s = true := fun w h => atoms_spec (ws := wsX0_copy) B.pre w (List.mem_cons_of_mem _ h)
  have hown : s.vm.findClass RX0 = some m.cls := findClass_of_methodNamed B.named
  have hlocks := B.notSynchronized
  subst hsz
  have hD := hD0.self (sz := s.heap.size)
  generalize hAe : va_A [(h0, .inr (0, [.ref a1, .ref a2, .int tk, .int ob, .int co, .ref a3, .int rc, .ref a4])), (a1, .inl (c1, 300, .inr (.inl ce))), (a2, .inl (c2, 16, .inl rg)), (a3, .inl (c3, 300, .inl re)), (a4, .inl (c4, 300, .inl np))] s.heap.size = A at hD hZ ⊢
  have hA : ∀ q : Nat, s.heap.size ≤ q → A q := fun q h => by rw [← hAe]; exact Or.inr h
  have hS : va_S A s.heap s.heap [] := va_S.rf
  generalize hQ9 : vx_MQ below (fun _ _ _ _ => False) (vx_X (fun _ : Unit => True) (fun E u t => (fun (E : String) (_ : Unit) => E = hz_A) E u ∧ hw_B (dC, dI) vwCl [(c1, .long), (c2, .int), (c3, .int), (c4, .int)] A ((fun _ : Unit => [(h0, .inr (0, [.ref a1, .ref a2, .int tk, .int ob, .int co, .ref a3, .int rc, .ref a4])), (a1, .inl (c1, 300, .inr (.inl ce))), (a2, .inl (c2, 16, .inl rg)), (a3, .inl (c3, 300, .inl re)), (a4, .inl (c4, 300, .inl np))]) u) t) A) args s 1 6 A = Q9
  have hl := lv_entry ([.ref h0, .int r, .int t]) (n := 3) (Nat.le_of_ble_eq_true rfl)
  rw [show entryFrame m args 3 = _ from (congrArg (fun z => entryFrame m z 3) hargs).trans (lg_entry_eq m [.ref h0, .int r, .int t] 3)]
  generalize (lg_sl ([.ref h0, .int r, .int t]) ++ List.replicate (3 - (lg_sl ([.ref h0, .int r, .int t])).length) Slot.unset).toArray = ls at hl ⊢
  have hl : lv_has ls 3 [(0, .ref h0), (1, .int r), (2, .int t)] := hl
  obtain ⟨H, hH⟩ : ∃ H, H = s.heap := ⟨_, rfl⟩
  rw [← hH] at hP
  have hS : va_S A s.heap H [] := by rw [hH]; exact hS
  rw [← hH]
  generalize ([] : List Loc) = locs at hS ⊢
  refine lv_iload_n hx hb dX0_copy_0 rfl (lv_at hl 1 rfl) ?_
  by_cases hr1 : hp_bad r 16
  · skip
    refine hx_throws (vx_runS (As := [.int r]) (rest := []) ⟨hx, hb, hml, hown, hts⟩ (x_X0_checkRegister l hl9 dC dI _ hr1) (va_cwS 1 hts gw_X0_42 rfl rfl rfl ⟨by decide, by decide, by decide +kernel⟩ ⟨Nat.le_of_ble_eq_true rfl, Nat.le_of_ble_eq_true rfl⟩) ⟨hx_blind, hx_pay hx_P0 (hK.sub (tys' := []) [] rfl) hx_D0 hS hA hZ⟩ rfl rfl hl.1 rfl (lv_room (Nat.le_of_ble_eq_true rfl)) dX0_copy_1 ⟨by decide, by decide⟩) hP hS hA (fun E ce9 q9 H locs hb9 hP hS h1 h2 h3 => ?_)
    subst hQ9
    exact vx_out (fun x hx => (hEx x hx).elim) hlocks h1 h2 h3 (fun t ht ha => ⟨(), trivial, ⟨hb9, by rw [ht]; exact hP, va_K.moved ha hK, hD⟩, hS.F ht⟩) hS.2.2 (Nat.le_of_ble_eq_true rfl) (Nat.le_of_ble_eq_true rfl)
  · skip
    refine hw_callN (W.runS (As := [.int r]) (rest := []) ⟨hx, hb, hml, hown, hts⟩ (c_X0_checkRegister l hr1) (va_cwS 1 hts gw_X0_42 rfl rfl rfl ⟨by decide, by decide, by decide +kernel⟩ ⟨Nat.le_of_ble_eq_true rfl, Nat.le_of_ble_eq_true rfl⟩) preEq rfl rfl hl.1 rfl (lv_room (Nat.le_of_ble_eq_true rfl)) dX0_copy_1 ⟨by decide, by decide⟩) ?_
    refine lv_iload_n hx hb dX0_copy_4 rfl (lv_at hl 2 rfl) ?_
    refine hx_throws (vx_runS (As := [.int t]) (rest := []) ⟨hx, hb, hml, hown, hts⟩ (x_X0_checkRegister l hl9 dC dI _ (hbad.resolve_left hr1)) (va_cwS 1 hts gw_X0_42 rfl rfl rfl ⟨by decide, by decide, by decide +kernel⟩ ⟨Nat.le_of_ble_eq_true rfl, Nat.le_of_ble_eq_true rfl⟩) ⟨hx_blind, hx_pay hx_P0 (hK.sub (tys' := []) [] rfl) hx_D0 hS hA hZ⟩ rfl rfl hl.1 rfl (lv_room (Nat.le_of_ble_eq_true rfl)) dX0_copy_5 ⟨by decide, by decide⟩) hP hS hA (fun E ce9 q9 H locs hb9 hP hS h1 h2 h3 => ?_)
    subst hQ9
    exact vx_out (fun x hx => (hEx x hx).elim) hlocks h1 h2 h3 (fun t ht ha => ⟨(), trivial, ⟨hb9, by rw [ht]; exact hP, va_K.moved ha hK, hD⟩, hS.F ht⟩) hS.2.2 (Nat.le_of_ble_eq_true rfl) (Nat.le_of_ble_eq_true rfl)

set_option maxHeartbeats 4000000 in
set_option maxRecDepth 100000 in
theorem c_X0_link (l : Launch) (dC : Nat → ClassId) (dI : Nat → Nat → Nat) (h0 a1 a2 a3 a4 : Nat) (c1 c2 c3 c4 : ClassId) (ce : Nat → Int64) (rg : Nat → Int32) (tk ob co : Int32) (re : Nat → Int32) (rc : Int32) (np : Nat → Int32) (sz : Nat) (M : hp_S) (hW : hp_W M) (hC : hp_C M ce rg tk ob co) (j q i : Nat) (hj : j < 16) (hi : i < 16) (h0n : hp_r M j ≠ 0) (hk1 : hp_k M (hp_r M j) = 1) (hq : q < hp_z M (hp_r M j)) : Met l yX0_link wsX0_link ({ frames := 2, cells := 0, slots := 0, locals := 41 }) (va_Pc [.ref h0, .int (nI j), .int (nI q), .int (nI i)] (hw_pre (dC, dI) vwCl [(c1, .long), (c2, .int), (c3, .int), (c4, .int)] [(h0, .inr (0, [.ref a1, .ref a2, .int tk, .int ob, .int co, .ref a3, .int rc, .ref a4])), (a1, .inl (c1, 300, .inr (.inl ce))), (a2, .inl (c2, 16, .inl rg)), (a3, .inl (c3, 300, .inl re)), (a4, .inl (c4, 300, .inl np))] sz)) (va_Qv (fun u : Nat → Int64 => hp_C (hp_sl M (hp_r M j) q (hp_r M i)) u rg tk ob co) (fun u t => hw_B (dC, dI) vwCl [(c1, .long), (c2, .int), (c3, .int), (c4, .int)] (va_A [(h0, .inr (0, [.ref a1, .ref a2, .int tk, .int ob, .int co, .ref a3, .int rc, .ref a4])), (a1, .inl (c1, 300, .inr (.inl ce))), (a2, .inl (c2, 16, .inl rg)), (a3, .inl (c3, 300, .inl re)), (a4, .inl (c4, 300, .inl np))] sz) ((fun u : Nat → Int64 => [(h0, .inr (0, [.ref a1, .ref a2, .int tk, .int ob, .int co, .ref a3, .int rc, .ref a4])), (a1, .inl (c1, 300, .inr (.inl u))), (a2, .inl (c2, 16, .inl rg)), (a3, .inl (c3, 300, .inl re)), (a4, .inl (c4, 300, .inl np))]) u) t) (va_A [(h0, .inr (0, [.ref a1, .ref a2, .int tk, .int ob, .int co, .ref a3, .int rc, .ref a4])), (a1, .inl (c1, 300, .inr (.inl ce))), (a2, .inl (c2, 16, .inl rg)), (a3, .inl (c3, 300, .inl re)), (a4, .inl (c4, 300, .inl np))] sz)) 0 0 (va_A [(h0, .inr (0, [.ref a1, .ref a2, .int tk, .int ob, .int co, .ref a3, .int rc, .ref a4])), (a1, .inl (c1, 300, .inr (.inl ce))), (a2, .inl (c2, 16, .inl rg)), (a3, .inl (c3, 300, .inl re)), (a4, .inl (c4, 300, .inl np))] sz) := by
  refine Met.ofW (cc := cX0_link) (maxL := 5) (ret := none) (by decide) rfl ?_
  intro p e s m args below meth c s₁ B hml hv
  obtain ⟨hargs, hsz, hP, hK, hD0⟩ := hv
  have hx := B.exec
  have hb := B.bytes
  have hr := B.returns
  have hts : ∀ w ∈ wb, w.before _ s = true := fun w h => atoms_spec (ws := wsX0_link) B.pre w (List.mem_cons_of_mem _ h)
  have hown : s.vm.findClass RX0 = some m.cls := findClass_of_methodNamed B.named
  have hlocks := B.notSynchronized
  subst hsz
  have hD := hD0.self (sz := s.heap.size)
  generalize hAe : va_A [(h0, .inr (0, [.ref a1, .ref a2, .int tk, .int ob, .int co, .ref a3, .int rc, .ref a4])), (a1, .inl (c1, 300, .inr (.inl ce))), (a2, .inl (c2, 16, .inl rg)), (a3, .inl (c3, 300, .inl re)), (a4, .inl (c4, 300, .inl np))] s.heap.size = A at hD ⊢
  have hA : ∀ q : Nat, s.heap.size ≤ q → A q := fun q h => by rw [← hAe]; exact Or.inr h
  have hS : va_S A s.heap s.heap [] := va_S.rf
  generalize hQ9 : MQ below (va_Qv (fun u : Nat → Int64 => hp_C (hp_sl M (hp_r M j) q (hp_r M i)) u rg tk ob co) (fun u t => hw_B (dC, dI) vwCl [(c1, .long), (c2, .int), (c3, .int), (c4, .int)] A ((fun u : Nat → Int64 => [(h0, .inr (0, [.ref a1, .ref a2, .int tk, .int ob, .int co, .ref a3, .int rc, .ref a4])), (a1, .inl (c1, 300, .inr (.inl u))), (a2, .inl (c2, 16, .inl rg)), (a3, .inl (c3, 300, .inl re)), (a4, .inl (c4, 300, .inl np))]) u) t) A) args s 0 0 A = Q9
  have hl := lv_entry ([.ref h0, .int (nI j), .int (nI q), .int (nI i)]) (n := 5) (Nat.le_of_ble_eq_true rfl)
  rw [show entryFrame m args 5 = _ from (congrArg (fun z => entryFrame m z 5) hargs).trans (lg_entry_eq m [.ref h0, .int (nI j), .int (nI q), .int (nI i)] 5)]
  generalize (lg_sl ([.ref h0, .int (nI j), .int (nI q), .int (nI i)]) ++ List.replicate (5 - (lg_sl ([.ref h0, .int (nI j), .int (nI q), .int (nI i)])).length) Slot.unset).toArray = ls at hl ⊢
  have hl : lv_has ls 5 [(0, .ref h0), (1, .int (nI j)), (2, .int (nI q)), (3, .int (nI i))] := hl
  obtain ⟨H, hH⟩ : ∃ H, H = s.heap := ⟨_, rfl⟩
  rw [← hH] at hP
  have hS : va_S A s.heap H [] := by rw [hH]; exact hS
  rw [← hH]
  generalize ([] : List Loc) = locs at hS ⊢
  refine lv_iload_n hx hb dX0_link_0 rfl (lv_at hl 1 rfl) ?_
  have hoL := (hW.2.2.2.1 j hj).resolve_left h0n
  have hcell := hC.2.2.2.2 _ hoL
  have hlt := hp_pl_lt hW hoL
  have hz9 := (hW.2.1 _ hoL).2.2.2.2.1
  refine hw_callN (W.runS (As := [.int (nI j)]) (rest := []) ⟨hx, hb, hml, hown, hts⟩ (c_X0_checkRegister l (hp_ok2 hj (by decide))) (va_cwS 1 hts gw_X0_42 rfl rfl rfl ⟨by decide, by decide, by decide +kernel⟩ ⟨Nat.le_of_ble_eq_true rfl, Nat.le_of_ble_eq_true rfl⟩) preEq rfl rfl hl.1 rfl (lv_room (Nat.le_of_ble_eq_true rfl)) dX0_link_1 ⟨by decide, by decide⟩) ?_
  refine lv_iload_n hx hb dX0_link_4 rfl (lv_at hl 3 rfl) ?_
  refine hw_callN (W.runS (As := [.int (nI i)]) (rest := []) ⟨hx, hb, hml, hown, hts⟩ (c_X0_checkRegister l (hp_ok2 hi (by decide))) (va_cwS 1 hts gw_X0_42 rfl rfl rfl ⟨by decide, by decide, by decide +kernel⟩ ⟨Nat.le_of_ble_eq_true rfl, Nat.le_of_ble_eq_true rfl⟩) preEq rfl rfl hl.1 rfl (lv_room (Nat.le_of_ble_eq_true rfl)) dX0_link_5 ⟨by decide, by decide⟩) ?_
  refine lv_aload_n hx hb dX0_link_8 rfl (lv_at hl 0 rfl) ?_
  refine va_get (D := (dC, dI)) (ci := 0) (v := .ref a2) (C := RX0) (T := TX0) (N := 8) hx hb hts inX0 hown hK hP 0 rfl rfl 1 (by decide) (hts _ bw_fl_X0_13) (fun _ h9 => h9) rfl dX0_link_9 ?_
  refine lv_iload_n hx hb dX0_link_12 rfl (lv_at hl 1 rfl) ?_
  refine hw_iald (j := j) hx hb hK hP 2 1 rfl rfl (rfl) (hj) (by decide) dX0_link_13 ?_
  refine hw_topi (y := nI (hp_pl M (hp_r M j))) ((hC.2.2.2.1 j hj).trans (hp_en h0n)) ?_
  refine lv_istore hx hb dX0_link_14 hl (by decide) rfl (fun ls hl => ?_)
  have hl : lv_has ls 5 [(4, .int (nI (hp_pl M (hp_r M j)))), (0, .ref h0), (1, .int (nI j)), (2, .int (nI q)), (3, .int (nI i))] := hl
  refine lv_iload hx hb dX0_link_16 (lv_at hl 0 rfl) ?_
  refine hw_callN (W.runS (As := [.int (nI (hp_pl M (hp_r M j)))]) (rest := []) ⟨hx, hb, hml, hown, hts⟩ (c_X0_checkNotNull l (hp_neg1 (by omega))) (va_cwS 1 hts gw_X0_56 rfl rfl rfl ⟨by decide, by decide, by decide +kernel⟩ ⟨Nat.le_of_ble_eq_true rfl, Nat.le_of_ble_eq_true rfl⟩) preEq rfl rfl hl.1 rfl (lv_room (Nat.le_of_ble_eq_true rfl)) dX0_link_18 ⟨by decide, by decide⟩) ?_
  refine lv_aload_n hx hb dX0_link_21 rfl (lv_at hl 1 rfl) ?_
  refine lv_iload hx hb dX0_link_22 (lv_at hl 0 rfl) ?_
  refine W.callR (W.runV (As := [.int (nI (hp_pl M (hp_r M j)))]) (rest := []) ⟨hx, hb, hml, hown, hts⟩ (c_X0_kindAt l dC dI h0 a1 a2 a3 a4 c1 c2 c3 c4 ce rg tk ob co re rc np _ (by omega)) (cwV 1 hts gw_X0_59 rfl rfl rfl ⟨rfl, by decide, by decide, by decide +kernel⟩ ⟨Nat.le_of_ble_eq_true rfl, Nat.le_of_ble_eq_true rfl⟩) ⟨hw_blind, va_recv (q0 := 0) (ci := 0) (q := (RX0, TX0, 8)) hK hP rfl rfl, hw_pay hP hK hD⟩ rfl rfl hl.1 rfl (lv_room (Nat.le_of_ble_eq_true rfl)) dX0_link_24 ⟨by decide, by decide⟩) ?_
  refine W.eq (g2 := F0 m 27 ls [.int ((ce (hp_pl M (hp_r M j))).toInt32 &&& 3)]) rfl ?_
  refine hw_topi (y := nI (hp_k M (hp_r M j))) (hp_rkind hW hoL hcell.1) ?_
  refine lv_iconst (v := 1) hx hb dX0_link_27 (by decide) ?_
  refine lv_icmp_ne hx hb dX0_link_28 (tgt := 35) (by decide) (fun hc => ?_) (fun hc => ?_)
  · exact absurd (by rw [hk1]; decide) hc
  · skip
    refine lv_iconst (v := 1) hx hb dX0_link_31 (by decide) ?_
    refine lv_goto hx hb dX0_link_32 (tgt := 36) (by decide) ?_
    refine hw_callN (W.runS (As := [.int 1]) (rest := []) ⟨hx, hb, hml, hown, hts⟩ (c_X0_checkKind l ) (va_cwS 1 hts gw_X0_63 rfl rfl rfl ⟨by decide, by decide, by decide +kernel⟩ ⟨Nat.le_of_ble_eq_true rfl, Nat.le_of_ble_eq_true rfl⟩) preEq rfl rfl hl.1 rfl (lv_room (Nat.le_of_ble_eq_true rfl)) dX0_link_36 ⟨by decide, by decide⟩) ?_
    refine lv_iload_n hx hb dX0_link_39 rfl (lv_at hl 3 rfl) ?_
    refine lv_aload_n hx hb dX0_link_40 rfl (lv_at hl 1 rfl) ?_
    refine lv_iload hx hb dX0_link_41 (lv_at hl 0 rfl) ?_
    refine W.callR (W.runV (As := [.int (nI (hp_pl M (hp_r M j)))]) (rest := [.int (nI q)]) ⟨hx, hb, hml, hown, hts⟩ (c_X0_lengthAt l dC dI h0 a1 a2 a3 a4 c1 c2 c3 c4 ce rg tk ob co re rc np _ (by omega)) (cwV 1 hts gw_X0_67 rfl rfl rfl ⟨rfl, by decide, by decide, by decide +kernel⟩ ⟨Nat.le_of_ble_eq_true rfl, Nat.le_of_ble_eq_true rfl⟩) ⟨hw_blind, va_recv (q0 := 0) (ci := 0) (q := (RX0, TX0, 8)) hK hP rfl rfl, hw_pay hP hK hD⟩ rfl rfl hl.1 rfl (lv_room (Nat.le_of_ble_eq_true rfl)) dX0_link_43 ⟨by decide, by decide⟩) ?_
    refine W.eq (g2 := F0 m 46 ls [.int ((ce (hp_pl M (hp_r M j))).toInt32 >>> ((2 : Int32) &&& 31)), .int (nI q)]) rfl ?_
    refine hw_topi (y := nI (hp_z M (hp_r M j))) (hp_rlen hW hoL hcell.1) ?_
    refine hw_callN (W.runS (As := [.int (nI q), .int (nI (hp_z M (hp_r M j)))]) (rest := []) ⟨hx, hb, hml, hown, hts⟩ (c_X0_checkBelow l (hp_ok2 hq (by omega))) (va_cwS 2 hts gw_X0_46 rfl rfl rfl ⟨by decide, by decide, by decide +kernel⟩ ⟨Nat.le_of_ble_eq_true rfl, Nat.le_of_ble_eq_true rfl⟩) preEq rfl rfl hl.1 rfl (lv_room (Nat.le_of_ble_eq_true rfl)) dX0_link_46 ⟨by decide, by decide⟩) ?_
    refine lv_aload_n hx hb dX0_link_49 rfl (lv_at hl 1 rfl) ?_
    refine va_get (D := (dC, dI)) (ci := 0) (v := .ref a1) (C := RX0) (T := TX0) (N := 8) hx hb hts inX0 hown hK hP 0 rfl rfl 0 (by decide) (hts _ bw_fl_X0_9) (fun _ h9 => h9) rfl dX0_link_50 ?_
    refine lv_iload hx hb dX0_link_53 (lv_at hl 0 rfl) ?_
    refine lv_iconst (v := 1) hx hb dX0_link_55 (by decide) ?_
    refine lv_iadd hx hb dX0_link_56 ?_
    refine lv_iload_n hx hb dX0_link_57 rfl (lv_at hl 3 rfl) ?_
    refine lv_iadd hx hb dX0_link_58 ?_
    refine lv_aload_n hx hb dX0_link_59 rfl (lv_at hl 1 rfl) ?_
    refine va_get (D := (dC, dI)) (ci := 0) (v := .ref a2) (C := RX0) (T := TX0) (N := 8) hx hb hts inX0 hown hK hP 0 rfl rfl 1 (by decide) (hts _ bw_fl_X0_13) (fun _ h9 => h9) rfl dX0_link_60 ?_
    refine lv_iload_n hx hb dX0_link_63 rfl (lv_at hl 4 rfl) ?_
    refine hw_iald (j := i) hx hb hK hP 2 1 rfl rfl (rfl) (hi) (by decide) dX0_link_64 ?_
    refine hw_topi (y := hp_e M (hp_r M i)) (hC.2.2.2.1 i hi) ?_
    refine lv_i2l hx hb dX0_link_65 rfl ?_
    refine hw_last (j := hp_pl M (hp_r M j) + (1 + q)) hx hb hK hP hD hS 1 0 rfl rfl (by rw [nI_1, nI_add]; congr 1; omega) (by omega) (by decide) dX0_link_66 (fun H locs hP hD hS => ?_)
    have hP : va_P (dC, dI) vwCl [(h0, .inr (0, [.ref a1, .ref a2, .int tk, .int ob, .int co, .ref a3, .int rc, .ref a4])), (a1, .inl (c1, 300, .inr (.inl (vp_updL ce (hp_pl M (hp_r M j) + (1 + q)) ((hp_e M (hp_r M i)).toInt64))))), (a2, .inl (c2, 16, .inl rg)), (a3, .inl (c3, 300, .inl re)), (a4, .inl (c4, 300, .inl np))] H := hP
    have hD : va_D A [(h0, .inr (0, [.ref a1, .ref a2, .int tk, .int ob, .int co, .ref a3, .int rc, .ref a4])), (a1, .inl (c1, 300, .inr (.inl (vp_updL ce (hp_pl M (hp_r M j) + (1 + q)) ((hp_e M (hp_r M i)).toInt64))))), (a2, .inl (c2, 16, .inl rg)), (a3, .inl (c3, 300, .inl re)), (a4, .inl (c4, 300, .inl np))] := hD
    subst hQ9
    exact W.vret hx hb hr (fun t ht hWm => ⟨⟨(vp_updL ce (hp_pl M (hp_r M j) + (1 + q)) ((hp_e M (hp_r M i)).toInt64)), rfl, hp_sl_C hC hoL (by omega) hq, by rw [ht]; exact hP, va_K.moved hWm.alike hK, hD⟩, hS.F ht⟩) hS.2.2 dX0_link_67

set_option maxHeartbeats 4000000 in
set_option maxRecDepth 100000 in
theorem c_X0_follow (l : Launch) (dC : Nat → ClassId) (dI : Nat → Nat → Nat) (h0 a1 a2 a3 a4 : Nat) (c1 c2 c3 c4 : ClassId) (ce : Nat → Int64) (rg : Nat → Int32) (tk ob co : Int32) (re : Nat → Int32) (rc : Int32) (np : Nat → Int32) (sz : Nat) (M : hp_S) (hW : hp_W M) (hC : hp_C M ce rg tk ob co) (j i q : Nat) (hj : j < 16) (hi : i < 16) (h0n : hp_r M i ≠ 0) (hk1 : hp_k M (hp_r M i) ≠ 2) (hq : q < hp_z M (hp_r M i)) : Met l yX0_follow wsX0_follow ({ frames := 2, cells := 0, slots := 0, locals := 41 }) (va_Pc [.ref h0, .int (nI j), .int (nI i), .int (nI q)] (hw_pre (dC, dI) vwCl [(c1, .long), (c2, .int), (c3, .int), (c4, .int)] [(h0, .inr (0, [.ref a1, .ref a2, .int tk, .int ob, .int co, .ref a3, .int rc, .ref a4])), (a1, .inl (c1, 300, .inr (.inl ce))), (a2, .inl (c2, 16, .inl rg)), (a3, .inl (c3, 300, .inl re)), (a4, .inl (c4, 300, .inl np))] sz)) (va_Qv (fun u : Nat → Int32 => hp_C (hp_sr M j (hp_l M (hp_r M i) q)) ce u tk ob co) (fun u t => hw_B (dC, dI) vwCl [(c1, .long), (c2, .int), (c3, .int), (c4, .int)] (va_A [(h0, .inr (0, [.ref a1, .ref a2, .int tk, .int ob, .int co, .ref a3, .int rc, .ref a4])), (a1, .inl (c1, 300, .inr (.inl ce))), (a2, .inl (c2, 16, .inl rg)), (a3, .inl (c3, 300, .inl re)), (a4, .inl (c4, 300, .inl np))] sz) ((fun u : Nat → Int32 => [(h0, .inr (0, [.ref a1, .ref a2, .int tk, .int ob, .int co, .ref a3, .int rc, .ref a4])), (a1, .inl (c1, 300, .inr (.inl ce))), (a2, .inl (c2, 16, .inl u)), (a3, .inl (c3, 300, .inl re)), (a4, .inl (c4, 300, .inl np))]) u) t) (va_A [(h0, .inr (0, [.ref a1, .ref a2, .int tk, .int ob, .int co, .ref a3, .int rc, .ref a4])), (a1, .inl (c1, 300, .inr (.inl ce))), (a2, .inl (c2, 16, .inl rg)), (a3, .inl (c3, 300, .inl re)), (a4, .inl (c4, 300, .inl np))] sz)) 0 0 (va_A [(h0, .inr (0, [.ref a1, .ref a2, .int tk, .int ob, .int co, .ref a3, .int rc, .ref a4])), (a1, .inl (c1, 300, .inr (.inl ce))), (a2, .inl (c2, 16, .inl rg)), (a3, .inl (c3, 300, .inl re)), (a4, .inl (c4, 300, .inl np))] sz) := by
  refine Met.ofW (cc := cX0_follow) (maxL := 5) (ret := none) (by decide) rfl ?_
  intro p e s m args below meth c s₁ B hml hv
  obtain ⟨hargs, hsz, hP, hK, hD0⟩ := hv
  have hx := B.exec
  have hb := B.bytes
  have hr := B.returns
  have hts : ∀ w ∈ wb, w.before _ s = true := fun w h => atoms_spec (ws := wsX0_follow) B.pre w (List.mem_cons_of_mem _ h)
  have hown : s.vm.findClass RX0 = some m.cls := findClass_of_methodNamed B.named
  have hlocks := B.notSynchronized
  subst hsz
  have hD := hD0.self (sz := s.heap.size)
  generalize hAe : va_A [(h0, .inr (0, [.ref a1, .ref a2, .int tk, .int ob, .int co, .ref a3, .int rc, .ref a4])), (a1, .inl (c1, 300, .inr (.inl ce))), (a2, .inl (c2, 16, .inl rg)), (a3, .inl (c3, 300, .inl re)), (a4, .inl (c4, 300, .inl np))] s.heap.size = A at hD ⊢
  have hA : ∀ q : Nat, s.heap.size ≤ q → A q := fun q h => by rw [← hAe]; exact Or.inr h
  have hS : va_S A s.heap s.heap [] := va_S.rf
  generalize hQ9 : MQ below (va_Qv (fun u : Nat → Int32 => hp_C (hp_sr M j (hp_l M (hp_r M i) q)) ce u tk ob co) (fun u t => hw_B (dC, dI) vwCl [(c1, .long), (c2, .int), (c3, .int), (c4, .int)] A ((fun u : Nat → Int32 => [(h0, .inr (0, [.ref a1, .ref a2, .int tk, .int ob, .int co, .ref a3, .int rc, .ref a4])), (a1, .inl (c1, 300, .inr (.inl ce))), (a2, .inl (c2, 16, .inl u)), (a3, .inl (c3, 300, .inl re)), (a4, .inl (c4, 300, .inl np))]) u) t) A) args s 0 0 A = Q9
  have hl := lv_entry ([.ref h0, .int (nI j), .int (nI i), .int (nI q)]) (n := 5) (Nat.le_of_ble_eq_true rfl)
  rw [show entryFrame m args 5 = _ from (congrArg (fun z => entryFrame m z 5) hargs).trans (lg_entry_eq m [.ref h0, .int (nI j), .int (nI i), .int (nI q)] 5)]
  generalize (lg_sl ([.ref h0, .int (nI j), .int (nI i), .int (nI q)]) ++ List.replicate (5 - (lg_sl ([.ref h0, .int (nI j), .int (nI i), .int (nI q)])).length) Slot.unset).toArray = ls at hl ⊢
  have hl : lv_has ls 5 [(0, .ref h0), (1, .int (nI j)), (2, .int (nI i)), (3, .int (nI q))] := hl
  obtain ⟨H, hH⟩ : ∃ H, H = s.heap := ⟨_, rfl⟩
  rw [← hH] at hP
  have hS : va_S A s.heap H [] := by rw [hH]; exact hS
  rw [← hH]
  generalize ([] : List Loc) = locs at hS ⊢
  refine lv_iload_n hx hb dX0_follow_0 rfl (lv_at hl 1 rfl) ?_
  have hoL := (hW.2.2.2.1 i hi).resolve_left h0n
  have hcell := hC.2.2.2.2 _ hoL
  have hlt := hp_pl_lt hW hoL
  have hz9 := (hW.2.1 _ hoL).2.2.2.2.1
  refine hw_callN (W.runS (As := [.int (nI j)]) (rest := []) ⟨hx, hb, hml, hown, hts⟩ (c_X0_checkRegister l (hp_ok2 hj (by decide))) (va_cwS 1 hts gw_X0_42 rfl rfl rfl ⟨by decide, by decide, by decide +kernel⟩ ⟨Nat.le_of_ble_eq_true rfl, Nat.le_of_ble_eq_true rfl⟩) preEq rfl rfl hl.1 rfl (lv_room (Nat.le_of_ble_eq_true rfl)) dX0_follow_1 ⟨by decide, by decide⟩) ?_
  refine lv_iload_n hx hb dX0_follow_4 rfl (lv_at hl 2 rfl) ?_
  refine hw_callN (W.runS (As := [.int (nI i)]) (rest := []) ⟨hx, hb, hml, hown, hts⟩ (c_X0_checkRegister l (hp_ok2 hi (by decide))) (va_cwS 1 hts gw_X0_42 rfl rfl rfl ⟨by decide, by decide, by decide +kernel⟩ ⟨Nat.le_of_ble_eq_true rfl, Nat.le_of_ble_eq_true rfl⟩) preEq rfl rfl hl.1 rfl (lv_room (Nat.le_of_ble_eq_true rfl)) dX0_follow_5 ⟨by decide, by decide⟩) ?_
  refine lv_aload_n hx hb dX0_follow_8 rfl (lv_at hl 0 rfl) ?_
  refine va_get (D := (dC, dI)) (ci := 0) (v := .ref a2) (C := RX0) (T := TX0) (N := 8) hx hb hts inX0 hown hK hP 0 rfl rfl 1 (by decide) (hts _ bw_fl_X0_13) (fun _ h9 => h9) rfl dX0_follow_9 ?_
  refine lv_iload_n hx hb dX0_follow_12 rfl (lv_at hl 2 rfl) ?_
  refine hw_iald (j := i) hx hb hK hP 2 1 rfl rfl (rfl) (hi) (by decide) dX0_follow_13 ?_
  refine hw_topi (y := nI (hp_pl M (hp_r M i))) ((hC.2.2.2.1 i hi).trans (hp_en h0n)) ?_
  refine lv_istore hx hb dX0_follow_14 hl (by decide) rfl (fun ls hl => ?_)
  have hl : lv_has ls 5 [(4, .int (nI (hp_pl M (hp_r M i)))), (0, .ref h0), (1, .int (nI j)), (2, .int (nI i)), (3, .int (nI q))] := hl
  refine lv_iload hx hb dX0_follow_16 (lv_at hl 0 rfl) ?_
  refine hw_callN (W.runS (As := [.int (nI (hp_pl M (hp_r M i)))]) (rest := []) ⟨hx, hb, hml, hown, hts⟩ (c_X0_checkNotNull l (hp_neg1 (by omega))) (va_cwS 1 hts gw_X0_56 rfl rfl rfl ⟨by decide, by decide, by decide +kernel⟩ ⟨Nat.le_of_ble_eq_true rfl, Nat.le_of_ble_eq_true rfl⟩) preEq rfl rfl hl.1 rfl (lv_room (Nat.le_of_ble_eq_true rfl)) dX0_follow_18 ⟨by decide, by decide⟩) ?_
  refine lv_aload_n hx hb dX0_follow_21 rfl (lv_at hl 1 rfl) ?_
  refine lv_iload hx hb dX0_follow_22 (lv_at hl 0 rfl) ?_
  refine W.callR (W.runV (As := [.int (nI (hp_pl M (hp_r M i)))]) (rest := []) ⟨hx, hb, hml, hown, hts⟩ (c_X0_kindAt l dC dI h0 a1 a2 a3 a4 c1 c2 c3 c4 ce rg tk ob co re rc np _ (by omega)) (cwV 1 hts gw_X0_59 rfl rfl rfl ⟨rfl, by decide, by decide, by decide +kernel⟩ ⟨Nat.le_of_ble_eq_true rfl, Nat.le_of_ble_eq_true rfl⟩) ⟨hw_blind, va_recv (q0 := 0) (ci := 0) (q := (RX0, TX0, 8)) hK hP rfl rfl, hw_pay hP hK hD⟩ rfl rfl hl.1 rfl (lv_room (Nat.le_of_ble_eq_true rfl)) dX0_follow_24 ⟨by decide, by decide⟩) ?_
  refine W.eq (g2 := F0 m 27 ls [.int ((ce (hp_pl M (hp_r M i))).toInt32 &&& 3)]) rfl ?_
  refine hw_topi (y := nI (hp_k M (hp_r M i))) (hp_rkind hW hoL hcell.1) ?_
  refine lv_iconst (v := 2) hx hb dX0_follow_27 (by decide) ?_
  refine lv_icmp_eq hx hb dX0_follow_28 (tgt := 35) (by decide) (fun hc => ?_) (fun hc => ?_)
  · exact absurd ((hp_k1 hW hoL (n := 2) (by decide)).mp hc) hk1
  · skip
    refine lv_iconst (v := 1) hx hb dX0_follow_31 (by decide) ?_
    refine lv_goto hx hb dX0_follow_32 (tgt := 36) (by decide) ?_
    refine hw_callN (W.runS (As := [.int 1]) (rest := []) ⟨hx, hb, hml, hown, hts⟩ (c_X0_checkKind l ) (va_cwS 1 hts gw_X0_63 rfl rfl rfl ⟨by decide, by decide, by decide +kernel⟩ ⟨Nat.le_of_ble_eq_true rfl, Nat.le_of_ble_eq_true rfl⟩) preEq rfl rfl hl.1 rfl (lv_room (Nat.le_of_ble_eq_true rfl)) dX0_follow_36 ⟨by decide, by decide⟩) ?_
    refine lv_iload_n hx hb dX0_follow_39 rfl (lv_at hl 4 rfl) ?_
    refine lv_aload_n hx hb dX0_follow_40 rfl (lv_at hl 1 rfl) ?_
    refine lv_iload hx hb dX0_follow_41 (lv_at hl 0 rfl) ?_
    refine W.callR (W.runV (As := [.int (nI (hp_pl M (hp_r M i)))]) (rest := [.int (nI q)]) ⟨hx, hb, hml, hown, hts⟩ (c_X0_lengthAt l dC dI h0 a1 a2 a3 a4 c1 c2 c3 c4 ce rg tk ob co re rc np _ (by omega)) (cwV 1 hts gw_X0_67 rfl rfl rfl ⟨rfl, by decide, by decide, by decide +kernel⟩ ⟨Nat.le_of_ble_eq_true rfl, Nat.le_of_ble_eq_true rfl⟩) ⟨hw_blind, va_recv (q0 := 0) (ci := 0) (q := (RX0, TX0, 8)) hK hP rfl rfl, hw_pay hP hK hD⟩ rfl rfl hl.1 rfl (lv_room (Nat.le_of_ble_eq_true rfl)) dX0_follow_43 ⟨by decide, by decide⟩) ?_
    refine W.eq (g2 := F0 m 46 ls [.int ((ce (hp_pl M (hp_r M i))).toInt32 >>> ((2 : Int32) &&& 31)), .int (nI q)]) rfl ?_
    refine hw_topi (y := nI (hp_z M (hp_r M i))) (hp_rlen hW hoL hcell.1) ?_
    refine hw_callN (W.runS (As := [.int (nI q), .int (nI (hp_z M (hp_r M i)))]) (rest := []) ⟨hx, hb, hml, hown, hts⟩ (c_X0_checkBelow l (hp_ok2 hq (by omega))) (va_cwS 2 hts gw_X0_46 rfl rfl rfl ⟨by decide, by decide, by decide +kernel⟩ ⟨Nat.le_of_ble_eq_true rfl, Nat.le_of_ble_eq_true rfl⟩) preEq rfl rfl hl.1 rfl (lv_room (Nat.le_of_ble_eq_true rfl)) dX0_follow_46 ⟨by decide, by decide⟩) ?_
    refine lv_aload_n hx hb dX0_follow_49 rfl (lv_at hl 1 rfl) ?_
    refine va_get (D := (dC, dI)) (ci := 0) (v := .ref a2) (C := RX0) (T := TX0) (N := 8) hx hb hts inX0 hown hK hP 0 rfl rfl 1 (by decide) (hts _ bw_fl_X0_13) (fun _ h9 => h9) rfl dX0_follow_50 ?_
    refine lv_iload_n hx hb dX0_follow_53 rfl (lv_at hl 2 rfl) ?_
    refine lv_aload_n hx hb dX0_follow_54 rfl (lv_at hl 1 rfl) ?_
    refine va_get (D := (dC, dI)) (ci := 0) (v := .ref a1) (C := RX0) (T := TX0) (N := 8) hx hb hts inX0 hown hK hP 0 rfl rfl 0 (by decide) (hts _ bw_fl_X0_9) (fun _ h9 => h9) rfl dX0_follow_55 ?_
    refine lv_iload hx hb dX0_follow_58 (lv_at hl 0 rfl) ?_
    refine lv_iconst (v := 1) hx hb dX0_follow_60 (by decide) ?_
    refine lv_iadd hx hb dX0_follow_61 ?_
    refine lv_iload_n hx hb dX0_follow_62 rfl (lv_at hl 4 rfl) ?_
    refine lv_iadd hx hb dX0_follow_63 ?_
    refine hw_lald (j := hp_pl M (hp_r M i) + (1 + q)) hx hb hK hP 1 0 rfl rfl (by rw [nI_1, nI_add]; congr 1; omega) (by omega) (by decide) dX0_follow_64 ?_
    refine lv_l2i hx hb dX0_follow_65 rfl ?_
    refine hw_topi (y := hp_e M (hp_l M (hp_r M i) q)) (hp_rref hk1 (hcell.2 q hq)) ?_
    refine hw_iast (j := j) hx hb hK hP hD hS 2 1 rfl rfl (rfl) (hj) (by decide) dX0_follow_66 (fun H locs hP hD hS => ?_)
    have hP : va_P (dC, dI) vwCl [(h0, .inr (0, [.ref a1, .ref a2, .int tk, .int ob, .int co, .ref a3, .int rc, .ref a4])), (a1, .inl (c1, 300, .inr (.inl ce))), (a2, .inl (c2, 16, .inl (upd rg j (hp_e M (hp_l M (hp_r M i) q))))), (a3, .inl (c3, 300, .inl re)), (a4, .inl (c4, 300, .inl np))] H := hP
    have hD : va_D A [(h0, .inr (0, [.ref a1, .ref a2, .int tk, .int ob, .int co, .ref a3, .int rc, .ref a4])), (a1, .inl (c1, 300, .inr (.inl ce))), (a2, .inl (c2, 16, .inl (upd rg j (hp_e M (hp_l M (hp_r M i) q))))), (a3, .inl (c3, 300, .inl re)), (a4, .inl (c4, 300, .inl np))] := hD
    subst hQ9
    exact W.vret hx hb hr (fun t ht hWm => ⟨⟨(upd rg j (hp_e M (hp_l M (hp_r M i) q))), rfl, hp_sr_C hC j _, by rw [ht]; exact hP, va_K.moved hWm.alike hK, hD⟩, hS.F ht⟩) hS.2.2 dX0_follow_67
end
section
theorem hp_cd_0 {M : hp_S} {o : Nat} {i : Int32} {ok : Prop} {k : Nat} (h : o = 0) (hc : hp_cd M o i ok k) : k = 2 := by
  rcases hc with ⟨a, b⟩ | ⟨a, b, c⟩ | ⟨a, b, c, d⟩
  · exact b
  · exact absurd h a
  · exact absurd h a
theorem hp_cd_1 {M : hp_S} {o : Nat} {i : Int32} {ok : Prop} {k : Nat} (h : o ≠ 0) (hb : ¬ ok ∨ hp_bad i (hp_z M o)) (hc : hp_cd M o i ok k) : k = 1 := by
  rcases hc with ⟨a, b⟩ | ⟨a, b, c⟩ | ⟨a, b, c, d⟩
  · exact absurd a h
  · exact c
  · rcases hb with hb | hb
    · exact absurd b hb
    · exact absurd hb c
theorem hp_cd_ok {M : hp_S} {o : Nat} {i : Int32} {ok : Prop} {k : Nat} (h : o ≠ 0) (ho : ok) (hb : ¬ hp_bad i (hp_z M o)) (hc : hp_cd M o i ok k) : k = 0 := by
  rcases hc with ⟨a, b⟩ | ⟨a, b, c⟩ | ⟨a, b, c, d⟩
  · exact absurd a h
  · rcases b with b | b
    · exact absurd ho b
    · exact absurd b hb
  · exact d
end
section
set_option maxHeartbeats 4000000 in
set_option maxRecDepth 100000 in
theorem x_X0_link (l : Launch) (dC : Nat → ClassId) (dI : Nat → Nat → Nat) (h0 a1 a2 a3 a4 : Nat) (c1 c2 c3 c4 : ClassId) (ce : Nat → Int64) (rg : Nat → Int32) (tk ob co : Int32) (re : Nat → Int32) (rc : Int32) (np : Nat → Int32) (sz : Nat) (hl9 : l.stackTraces = false) (M : hp_S) (hW : hp_W M) (hC : hp_C M ce rg tk ob co) (r i t : Int32) (k : Nat) (hk : hp_lk M (hp_bad r 16 ∨ hp_bad t 16) (hp_at M r) i (hp_k M (hp_at M r) = 1) k) (hk0 : k ≠ 0) : vx_Met l yX0_link wsX0_link ({ frames := 8, cells := 1, slots := 6, locals := 131 }) (va_Pc [.ref h0, .int r, .int i, .int t] (hx_pre (dC, dI) vwCl [(c1, .long), (c2, .int), (c3, .int), (c4, .int)] [(h0, .inr (0, [.ref a1, .ref a2, .int tk, .int ob, .int co, .ref a3, .int rc, .ref a4])), (a1, .inl (c1, 300, .inr (.inl ce))), (a2, .inl (c2, 16, .inl rg)), (a3, .inl (c3, 300, .inl re)), (a4, .inl (c4, 300, .inl np))] sz)) (fun _ _ _ _ => False) (vx_X (fun _ : Unit => True) (fun E u t => (fun (E : String) (_ : Unit) => hp_E2 E k) E u ∧ hw_B (dC, dI) vwCl [(c1, .long), (c2, .int), (c3, .int), (c4, .int)] (va_A [(h0, .inr (0, [.ref a1, .ref a2, .int tk, .int ob, .int co, .ref a3, .int rc, .ref a4])), (a1, .inl (c1, 300, .inr (.inl ce))), (a2, .inl (c2, 16, .inl rg)), (a3, .inl (c3, 300, .inl re)), (a4, .inl (c4, 300, .inl np))] sz) ((fun _ : Unit => [(h0, .inr (0, [.ref a1, .ref a2, .int tk, .int ob, .int co, .ref a3, .int rc, .ref a4])), (a1, .inl (c1, 300, .inr (.inl ce))), (a2, .inl (c2, 16, .inl rg)), (a3, .inl (c3, 300, .inl re)), (a4, .inl (c4, 300, .inl np))]) u) t) (va_A [(h0, .inr (0, [.ref a1, .ref a2, .int tk, .int ob, .int co, .ref a3, .int rc, .ref a4])), (a1, .inl (c1, 300, .inr (.inl ce))), (a2, .inl (c2, 16, .inl rg)), (a3, .inl (c3, 300, .inl re)), (a4, .inl (c4, 300, .inl np))] sz)) 1 6 (va_A [(h0, .inr (0, [.ref a1, .ref a2, .int tk, .int ob, .int co, .ref a3, .int rc, .ref a4])), (a1, .inl (c1, 300, .inr (.inl ce))), (a2, .inl (c2, 16, .inl rg)), (a3, .inl (c3, 300, .inl re)), (a4, .inl (c4, 300, .inl np))] sz) := by
  refine vx_ofW (cc := cX0_link) (maxL := 5) (ret := none) (by decide) rfl ?_
  intro p e s m args below meth c s₁ B hml hEx hv
  obtain ⟨hargs, hsz, hP, hK, hD0, hZ⟩ := hv
  have hx := B.exec
  have hb := B.bytes
  have hr := B.returns
  have hts : ∀ w ∈ wb, w.before _ s = true := fun w h => atoms_spec (ws := wsX0_link) B.pre w (List.mem_cons_of_mem _ h)
  have hown : s.vm.findClass RX0 = some m.cls := findClass_of_methodNamed B.named
  have hlocks := B.notSynchronized
  subst hsz
  have hD := hD0.self (sz := s.heap.size)
  generalize hAe : va_A [(h0, .inr (0, [.ref a1, .ref a2, .int tk, .int ob, .int co, .ref a3, .int rc, .ref a4])), (a1, .inl (c1, 300, .inr (.inl ce))), (a2, .inl (c2, 16, .inl rg)), (a3, .inl (c3, 300, .inl re)), (a4, .inl (c4, 300, .inl np))] s.heap.size = A at hD hZ ⊢
  have hA : ∀ q : Nat, s.heap.size ≤ q → A q := fun q h => by rw [← hAe]; exact Or.inr h
  have hS : va_S A s.heap s.heap [] := va_S.rf
  generalize hQ9 : vx_MQ below (fun _ _ _ _ => False) (vx_X (fun _ : Unit => True) (fun E u t => (fun (E : String) (_ : Unit) => hp_E2 E k) E u ∧ hw_B (dC, dI) vwCl [(c1, .long), (c2, .int), (c3, .int), (c4, .int)] A ((fun _ : Unit => [(h0, .inr (0, [.ref a1, .ref a2, .int tk, .int ob, .int co, .ref a3, .int rc, .ref a4])), (a1, .inl (c1, 300, .inr (.inl ce))), (a2, .inl (c2, 16, .inl rg)), (a3, .inl (c3, 300, .inl re)), (a4, .inl (c4, 300, .inl np))]) u) t) A) args s 1 6 A = Q9
  have hl := lv_entry ([.ref h0, .int r, .int i, .int t]) (n := 5) (Nat.le_of_ble_eq_true rfl)
  rw [show entryFrame m args 5 = _ from (congrArg (fun z => entryFrame m z 5) hargs).trans (lg_entry_eq m [.ref h0, .int r, .int i, .int t] 5)]
  generalize (lg_sl ([.ref h0, .int r, .int i, .int t]) ++ List.replicate (5 - (lg_sl ([.ref h0, .int r, .int i, .int t])).length) Slot.unset).toArray = ls at hl ⊢
  have hl : lv_has ls 5 [(0, .ref h0), (1, .int r), (2, .int i), (3, .int t)] := hl
  obtain ⟨H, hH⟩ : ∃ H, H = s.heap := ⟨_, rfl⟩
  rw [← hH] at hP
  have hS : va_S A s.heap H [] := by rw [hH]; exact hS
  rw [← hH]
  generalize ([] : List Loc) = locs at hS ⊢
  refine lv_iload_n hx hb dX0_link_0 rfl (lv_at hl 1 rfl) ?_
  by_cases hr1 : hp_bad r 16
  · skip
    refine hx_throws (vx_runS (As := [.int r]) (rest := []) ⟨hx, hb, hml, hown, hts⟩ (x_X0_checkRegister l hl9 dC dI _ hr1) (va_cwS 1 hts gw_X0_42 rfl rfl rfl ⟨by decide, by decide, by decide +kernel⟩ ⟨Nat.le_of_ble_eq_true rfl, Nat.le_of_ble_eq_true rfl⟩) ⟨hx_blind, hx_pay hx_P0 (hK.sub (tys' := []) [] rfl) hx_D0 hS hA hZ⟩ rfl rfl hl.1 rfl (lv_room (Nat.le_of_ble_eq_true rfl)) dX0_link_1 ⟨by decide, by decide⟩) hP hS hA (fun E ce9 q9 H locs hb9 hP hS h1 h2 h3 => ?_)
    subst hQ9
    exact vx_out (fun x hx => (hEx x hx).elim) hlocks h1 h2 h3 (fun t ht ha => ⟨(), trivial, ⟨Or.inl ⟨hb9, (hk.resolve_right (fun h9 => h9.1 (Or.inl hr1))).2⟩, by rw [ht]; exact hP, va_K.moved ha hK, hD⟩, hS.F ht⟩) hS.2.2 (Nat.le_of_ble_eq_true rfl) (Nat.le_of_ble_eq_true rfl)
  · skip
    refine hw_callN (W.runS (As := [.int r]) (rest := []) ⟨hx, hb, hml, hown, hts⟩ (c_X0_checkRegister l hr1) (va_cwS 1 hts gw_X0_42 rfl rfl rfl ⟨by decide, by decide, by decide +kernel⟩ ⟨Nat.le_of_ble_eq_true rfl, Nat.le_of_ble_eq_true rfl⟩) preEq rfl rfl hl.1 rfl (lv_room (Nat.le_of_ble_eq_true rfl)) dX0_link_1 ⟨by decide, by decide⟩) ?_
    refine lv_iload_n hx hb dX0_link_4 rfl (lv_at hl 3 rfl) ?_
    by_cases ht1 : hp_bad t 16
    · skip
      refine hx_throws (vx_runS (As := [.int t]) (rest := []) ⟨hx, hb, hml, hown, hts⟩ (x_X0_checkRegister l hl9 dC dI _ ht1) (va_cwS 1 hts gw_X0_42 rfl rfl rfl ⟨by decide, by decide, by decide +kernel⟩ ⟨Nat.le_of_ble_eq_true rfl, Nat.le_of_ble_eq_true rfl⟩) ⟨hx_blind, hx_pay hx_P0 (hK.sub (tys' := []) [] rfl) hx_D0 hS hA hZ⟩ rfl rfl hl.1 rfl (lv_room (Nat.le_of_ble_eq_true rfl)) dX0_link_5 ⟨by decide, by decide⟩) hP hS hA (fun E ce9 q9 H locs hb9 hP hS h1 h2 h3 => ?_)
      subst hQ9
      exact vx_out (fun x hx => (hEx x hx).elim) hlocks h1 h2 h3 (fun t ht ha => ⟨(), trivial, ⟨Or.inl ⟨hb9, (hk.resolve_right (fun h9 => h9.1 (Or.inr ht1))).2⟩, by rw [ht]; exact hP, va_K.moved ha hK, hD⟩, hS.F ht⟩) hS.2.2 (Nat.le_of_ble_eq_true rfl) (Nat.le_of_ble_eq_true rfl)
    · skip
      refine hw_callN (W.runS (As := [.int t]) (rest := []) ⟨hx, hb, hml, hown, hts⟩ (c_X0_checkRegister l ht1) (va_cwS 1 hts gw_X0_42 rfl rfl rfl ⟨by decide, by decide, by decide +kernel⟩ ⟨Nat.le_of_ble_eq_true rfl, Nat.le_of_ble_eq_true rfl⟩) preEq rfl rfl hl.1 rfl (lv_room (Nat.le_of_ble_eq_true rfl)) dX0_link_5 ⟨by decide, by decide⟩) ?_
      have hcd := (hk.resolve_left (fun h9 => h9.1.elim hr1 ht1)).2
      obtain ⟨j, hj, rfl⟩ := hp_ok' hr1
      rw [hp_at_n hj] at hcd
      refine lv_aload_n hx hb dX0_link_8 rfl (lv_at hl 0 rfl) ?_
      refine va_get (D := (dC, dI)) (ci := 0) (v := .ref a2) (C := RX0) (T := TX0) (N := 8) hx hb hts inX0 hown hK hP 0 rfl rfl 1 (by decide) (hts _ bw_fl_X0_13) (fun _ h9 => h9) rfl dX0_link_9 ?_
      refine lv_iload_n hx hb dX0_link_12 rfl (lv_at hl 1 rfl) ?_
      refine hw_iald (j := j) hx hb hK hP 2 1 rfl rfl (rfl) (hj) (by decide) dX0_link_13 ?_
      refine hw_topi (y := hp_e M (hp_r M j)) (hC.2.2.2.1 j hj) ?_
      refine lv_istore hx hb dX0_link_14 hl (by decide) rfl (fun ls hl => ?_)
      have hl : lv_has ls 5 [(4, .int (hp_e M (hp_r M j))), (0, .ref h0), (1, .int (nI j)), (2, .int i), (3, .int t)] := hl
      refine lv_iload hx hb dX0_link_16 (lv_at hl 0 rfl) ?_
      by_cases h00 : hp_r M j = 0
      · skip
        refine hx_throws (vx_runS (As := [.int (hp_e M (hp_r M j))]) (rest := []) ⟨hx, hb, hml, hown, hts⟩ (x_X0_checkNotNull l hl9 dC dI _ ((hp_null hW (hW.2.2.2.1 j hj)).mpr h00)) (va_cwS 1 hts gw_X0_56 rfl rfl rfl ⟨by decide, by decide, by decide +kernel⟩ ⟨Nat.le_of_ble_eq_true rfl, Nat.le_of_ble_eq_true rfl⟩) ⟨hx_blind, hx_pay hx_P0 (hK.sub (tys' := []) [] rfl) hx_D0 hS hA hZ⟩ rfl rfl hl.1 rfl (lv_room (Nat.le_of_ble_eq_true rfl)) dX0_link_18 ⟨by decide, by decide⟩) hP hS hA (fun E ce9 q9 H locs hb9 hP hS h1 h2 h3 => ?_)
        subst hQ9
        exact vx_out (fun x hx => (hEx x hx).elim) hlocks h1 h2 h3 (fun t ht ha => ⟨(), trivial, ⟨Or.inr ⟨hb9, hp_cd_0 h00 hcd⟩, by rw [ht]; exact hP, va_K.moved ha hK, hD⟩, hS.F ht⟩) hS.2.2 (Nat.le_of_ble_eq_true rfl) (Nat.le_of_ble_eq_true rfl)
      · skip
        have hoL := (hW.2.2.2.1 j hj).resolve_left h00
        have hcell := hC.2.2.2.2 _ hoL
        have hlt := hp_pl_lt hW hoL
        have hz9 := (hW.2.1 _ hoL).2.2.2.2.1
        refine hw_callN (W.runS (As := [.int (hp_e M (hp_r M j))]) (rest := []) ⟨hx, hb, hml, hown, hts⟩ (c_X0_checkNotNull l (fun h9 => h00 ((hp_null hW (hW.2.2.2.1 j hj)).mp h9))) (va_cwS 1 hts gw_X0_56 rfl rfl rfl ⟨by decide, by decide, by decide +kernel⟩ ⟨Nat.le_of_ble_eq_true rfl, Nat.le_of_ble_eq_true rfl⟩) preEq rfl rfl hl.1 rfl (lv_room (Nat.le_of_ble_eq_true rfl)) dX0_link_18 ⟨by decide, by decide⟩) ?_
        refine lv_aload_n hx hb dX0_link_21 rfl (lv_at hl 1 rfl) ?_
        refine lv_iload hx hb dX0_link_22 (lv_at hl 0 rfl) ?_
        refine hw_topi (y := nI (hp_pl M (hp_r M j))) (hp_en h00) ?_
        refine W.callR (W.runV (As := [.int (nI (hp_pl M (hp_r M j)))]) (rest := []) ⟨hx, hb, hml, hown, hts⟩ (c_X0_kindAt l dC dI h0 a1 a2 a3 a4 c1 c2 c3 c4 ce rg tk ob co re rc np _ (by omega)) (cwV 1 hts gw_X0_59 rfl rfl rfl ⟨rfl, by decide, by decide, by decide +kernel⟩ ⟨Nat.le_of_ble_eq_true rfl, Nat.le_of_ble_eq_true rfl⟩) ⟨hw_blind, va_recv (q0 := 0) (ci := 0) (q := (RX0, TX0, 8)) hK hP rfl rfl, hw_pay hP hK hD⟩ rfl rfl hl.1 rfl (lv_room (Nat.le_of_ble_eq_true rfl)) dX0_link_24 ⟨by decide, by decide⟩) ?_
        refine W.eq (g2 := F0 m 27 ls [.int ((ce (hp_pl M (hp_r M j))).toInt32 &&& 3)]) rfl ?_
        refine hw_topi (y := nI (hp_k M (hp_r M j))) (hp_rkind hW hoL hcell.1) ?_
        refine lv_iconst (v := 1) hx hb dX0_link_27 (by decide) ?_
        refine lv_icmp_ne hx hb dX0_link_28 (tgt := 35) (by decide) (fun hc => ?_) (fun hc => ?_)
        · have hkk : ¬ hp_k M (hp_r M j) = 1 := fun h9 => hc (by rw [h9]; decide)
          refine lv_iconst (v := 0) hx hb dX0_link_35 (by decide) ?_
          refine hx_throws (vx_runS (As := [.int 0]) (rest := []) ⟨hx, hb, hml, hown, hts⟩ (x_X0_checkKind l hl9 dC dI _ ) (va_cwS 1 hts gw_X0_63 rfl rfl rfl ⟨by decide, by decide, by decide +kernel⟩ ⟨Nat.le_of_ble_eq_true rfl, Nat.le_of_ble_eq_true rfl⟩) ⟨hx_blind, hx_pay hx_P0 (hK.sub (tys' := []) [] rfl) hx_D0 hS hA hZ⟩ rfl rfl hl.1 rfl (lv_room (Nat.le_of_ble_eq_true rfl)) dX0_link_36 ⟨by decide, by decide⟩) hP hS hA (fun E ce9 q9 H locs hb9 hP hS h1 h2 h3 => ?_)
          subst hQ9
          exact vx_out (fun x hx => (hEx x hx).elim) hlocks h1 h2 h3 (fun t ht ha => ⟨(), trivial, ⟨Or.inl ⟨hb9, hp_cd_1 h00 (Or.inl hkk) hcd⟩, by rw [ht]; exact hP, va_K.moved ha hK, hD⟩, hS.F ht⟩) hS.2.2 (Nat.le_of_ble_eq_true rfl) (Nat.le_of_ble_eq_true rfl)
        · have hkk : hp_k M (hp_r M j) = 1 := (hp_k1 hW hoL (n := 1) (by decide)).mp hc
          refine lv_iconst (v := 1) hx hb dX0_link_31 (by decide) ?_
          refine lv_goto hx hb dX0_link_32 (tgt := 36) (by decide) ?_
          refine hw_callN (W.runS (As := [.int 1]) (rest := []) ⟨hx, hb, hml, hown, hts⟩ (c_X0_checkKind l ) (va_cwS 1 hts gw_X0_63 rfl rfl rfl ⟨by decide, by decide, by decide +kernel⟩ ⟨Nat.le_of_ble_eq_true rfl, Nat.le_of_ble_eq_true rfl⟩) preEq rfl rfl hl.1 rfl (lv_room (Nat.le_of_ble_eq_true rfl)) dX0_link_36 ⟨by decide, by decide⟩) ?_
          refine lv_iload_n hx hb dX0_link_39 rfl (lv_at hl 3 rfl) ?_
          refine lv_aload_n hx hb dX0_link_40 rfl (lv_at hl 1 rfl) ?_
          refine lv_iload hx hb dX0_link_41 (lv_at hl 0 rfl) ?_
          refine hw_topi (y := nI (hp_pl M (hp_r M j))) (hp_en h00) ?_
          refine W.callR (W.runV (As := [.int (nI (hp_pl M (hp_r M j)))]) (rest := [.int i]) ⟨hx, hb, hml, hown, hts⟩ (c_X0_lengthAt l dC dI h0 a1 a2 a3 a4 c1 c2 c3 c4 ce rg tk ob co re rc np _ (by omega)) (cwV 1 hts gw_X0_67 rfl rfl rfl ⟨rfl, by decide, by decide, by decide +kernel⟩ ⟨Nat.le_of_ble_eq_true rfl, Nat.le_of_ble_eq_true rfl⟩) ⟨hw_blind, va_recv (q0 := 0) (ci := 0) (q := (RX0, TX0, 8)) hK hP rfl rfl, hw_pay hP hK hD⟩ rfl rfl hl.1 rfl (lv_room (Nat.le_of_ble_eq_true rfl)) dX0_link_43 ⟨by decide, by decide⟩) ?_
          refine W.eq (g2 := F0 m 46 ls [.int ((ce (hp_pl M (hp_r M j))).toInt32 >>> ((2 : Int32) &&& 31)), .int i]) rfl ?_
          refine hw_topi (y := nI (hp_z M (hp_r M j))) (hp_rlen hW hoL hcell.1) ?_
          by_cases hq1 : hp_bad i (hp_z M (hp_r M j))
          · skip
            refine hx_throws (vx_runS (As := [.int i, .int (nI (hp_z M (hp_r M j)))]) (rest := []) ⟨hx, hb, hml, hown, hts⟩ (x_X0_checkBelow l hl9 dC dI _ hq1) (va_cwS 2 hts gw_X0_46 rfl rfl rfl ⟨by decide, by decide, by decide +kernel⟩ ⟨Nat.le_of_ble_eq_true rfl, Nat.le_of_ble_eq_true rfl⟩) ⟨hx_blind, hx_pay hx_P0 (hK.sub (tys' := []) [] rfl) hx_D0 hS hA hZ⟩ rfl rfl hl.1 rfl (lv_room (Nat.le_of_ble_eq_true rfl)) dX0_link_46 ⟨by decide, by decide⟩) hP hS hA (fun E ce9 q9 H locs hb9 hP hS h1 h2 h3 => ?_)
            subst hQ9
            exact vx_out (fun x hx => (hEx x hx).elim) hlocks h1 h2 h3 (fun t ht ha => ⟨(), trivial, ⟨Or.inl ⟨hb9, hp_cd_1 h00 (Or.inr hq1) hcd⟩, by rw [ht]; exact hP, va_K.moved ha hK, hD⟩, hS.F ht⟩) hS.2.2 (Nat.le_of_ble_eq_true rfl) (Nat.le_of_ble_eq_true rfl)
          · skip
            refine hw_callN (W.runS (As := [.int i, .int (nI (hp_z M (hp_r M j)))]) (rest := []) ⟨hx, hb, hml, hown, hts⟩ (c_X0_checkBelow l hq1) (va_cwS 2 hts gw_X0_46 rfl rfl rfl ⟨by decide, by decide, by decide +kernel⟩ ⟨Nat.le_of_ble_eq_true rfl, Nat.le_of_ble_eq_true rfl⟩) preEq rfl rfl hl.1 rfl (lv_room (Nat.le_of_ble_eq_true rfl)) dX0_link_46 ⟨by decide, by decide⟩) ?_
            exact absurd (hp_cd_ok h00 hkk hq1 hcd) hk0

set_option maxHeartbeats 4000000 in
set_option maxRecDepth 100000 in
theorem x_X0_follow (l : Launch) (dC : Nat → ClassId) (dI : Nat → Nat → Nat) (h0 a1 a2 a3 a4 : Nat) (c1 c2 c3 c4 : ClassId) (ce : Nat → Int64) (rg : Nat → Int32) (tk ob co : Int32) (re : Nat → Int32) (rc : Int32) (np : Nat → Int32) (sz : Nat) (hl9 : l.stackTraces = false) (M : hp_S) (hW : hp_W M) (hC : hp_C M ce rg tk ob co) (r i t : Int32) (k : Nat) (hk : hp_lk M (hp_bad r 16 ∨ hp_bad t 16) (hp_at M t) i (hp_k M (hp_at M t) ≠ 2) k) (hk0 : k ≠ 0) : vx_Met l yX0_follow wsX0_follow ({ frames := 8, cells := 1, slots := 6, locals := 131 }) (va_Pc [.ref h0, .int r, .int t, .int i] (hx_pre (dC, dI) vwCl [(c1, .long), (c2, .int), (c3, .int), (c4, .int)] [(h0, .inr (0, [.ref a1, .ref a2, .int tk, .int ob, .int co, .ref a3, .int rc, .ref a4])), (a1, .inl (c1, 300, .inr (.inl ce))), (a2, .inl (c2, 16, .inl rg)), (a3, .inl (c3, 300, .inl re)), (a4, .inl (c4, 300, .inl np))] sz)) (fun _ _ _ _ => False) (vx_X (fun _ : Unit => True) (fun E u t => (fun (E : String) (_ : Unit) => hp_E2 E k) E u ∧ hw_B (dC, dI) vwCl [(c1, .long), (c2, .int), (c3, .int), (c4, .int)] (va_A [(h0, .inr (0, [.ref a1, .ref a2, .int tk, .int ob, .int co, .ref a3, .int rc, .ref a4])), (a1, .inl (c1, 300, .inr (.inl ce))), (a2, .inl (c2, 16, .inl rg)), (a3, .inl (c3, 300, .inl re)), (a4, .inl (c4, 300, .inl np))] sz) ((fun _ : Unit => [(h0, .inr (0, [.ref a1, .ref a2, .int tk, .int ob, .int co, .ref a3, .int rc, .ref a4])), (a1, .inl (c1, 300, .inr (.inl ce))), (a2, .inl (c2, 16, .inl rg)), (a3, .inl (c3, 300, .inl re)), (a4, .inl (c4, 300, .inl np))]) u) t) (va_A [(h0, .inr (0, [.ref a1, .ref a2, .int tk, .int ob, .int co, .ref a3, .int rc, .ref a4])), (a1, .inl (c1, 300, .inr (.inl ce))), (a2, .inl (c2, 16, .inl rg)), (a3, .inl (c3, 300, .inl re)), (a4, .inl (c4, 300, .inl np))] sz)) 1 6 (va_A [(h0, .inr (0, [.ref a1, .ref a2, .int tk, .int ob, .int co, .ref a3, .int rc, .ref a4])), (a1, .inl (c1, 300, .inr (.inl ce))), (a2, .inl (c2, 16, .inl rg)), (a3, .inl (c3, 300, .inl re)), (a4, .inl (c4, 300, .inl np))] sz) := by
  refine vx_ofW (cc := cX0_follow) (maxL := 5) (ret := none) (by decide) rfl ?_
  intro p e s m args below meth c s₁ B hml hEx hv
  obtain ⟨hargs, hsz, hP, hK, hD0, hZ⟩ := hv
  have hx := B.exec
  have hb := B.bytes
  have hr := B.returns
  have hts : ∀ w ∈ wb, w.before _ s = true := fun w h => atoms_spec (ws := wsX0_follow) B.pre w (List.mem_cons_of_mem _ h)
  have hown : s.vm.findClass RX0 = some m.cls := findClass_of_methodNamed B.named
  have hlocks := B.notSynchronized
  subst hsz
  have hD := hD0.self (sz := s.heap.size)
  generalize hAe : va_A [(h0, .inr (0, [.ref a1, .ref a2, .int tk, .int ob, .int co, .ref a3, .int rc, .ref a4])), (a1, .inl (c1, 300, .inr (.inl ce))), (a2, .inl (c2, 16, .inl rg)), (a3, .inl (c3, 300, .inl re)), (a4, .inl (c4, 300, .inl np))] s.heap.size = A at hD hZ ⊢
  have hA : ∀ q : Nat, s.heap.size ≤ q → A q := fun q h => by rw [← hAe]; exact Or.inr h
  have hS : va_S A s.heap s.heap [] := va_S.rf
  generalize hQ9 : vx_MQ below (fun _ _ _ _ => False) (vx_X (fun _ : Unit => True) (fun E u t => (fun (E : String) (_ : Unit) => hp_E2 E k) E u ∧ hw_B (dC, dI) vwCl [(c1, .long), (c2, .int), (c3, .int), (c4, .int)] A ((fun _ : Unit => [(h0, .inr (0, [.ref a1, .ref a2, .int tk, .int ob, .int co, .ref a3, .int rc, .ref a4])), (a1, .inl (c1, 300, .inr (.inl ce))), (a2, .inl (c2, 16, .inl rg)), (a3, .inl (c3, 300, .inl re)), (a4, .inl (c4, 300, .inl np))]) u) t) A) args s 1 6 A = Q9
  have hl := lv_entry ([.ref h0, .int r, .int t, .int i]) (n := 5) (Nat.le_of_ble_eq_true rfl)
  rw [show entryFrame m args 5 = _ from (congrArg (fun z => entryFrame m z 5) hargs).trans (lg_entry_eq m [.ref h0, .int r, .int t, .int i] 5)]
  generalize (lg_sl ([.ref h0, .int r, .int t, .int i]) ++ List.replicate (5 - (lg_sl ([.ref h0, .int r, .int t, .int i])).length) Slot.unset).toArray = ls at hl ⊢
  have hl : lv_has ls 5 [(0, .ref h0), (1, .int r), (2, .int t), (3, .int i)] := hl
  obtain ⟨H, hH⟩ : ∃ H, H = s.heap := ⟨_, rfl⟩
  rw [← hH] at hP
  have hS : va_S A s.heap H [] := by rw [hH]; exact hS
  rw [← hH]
  generalize ([] : List Loc) = locs at hS ⊢
  refine lv_iload_n hx hb dX0_follow_0 rfl (lv_at hl 1 rfl) ?_
  by_cases hr1 : hp_bad r 16
  · skip
    refine hx_throws (vx_runS (As := [.int r]) (rest := []) ⟨hx, hb, hml, hown, hts⟩ (x_X0_checkRegister l hl9 dC dI _ hr1) (va_cwS 1 hts gw_X0_42 rfl rfl rfl ⟨by decide, by decide, by decide +kernel⟩ ⟨Nat.le_of_ble_eq_true rfl, Nat.le_of_ble_eq_true rfl⟩) ⟨hx_blind, hx_pay hx_P0 (hK.sub (tys' := []) [] rfl) hx_D0 hS hA hZ⟩ rfl rfl hl.1 rfl (lv_room (Nat.le_of_ble_eq_true rfl)) dX0_follow_1 ⟨by decide, by decide⟩) hP hS hA (fun E ce9 q9 H locs hb9 hP hS h1 h2 h3 => ?_)
    subst hQ9
    exact vx_out (fun x hx => (hEx x hx).elim) hlocks h1 h2 h3 (fun t ht ha => ⟨(), trivial, ⟨Or.inl ⟨hb9, (hk.resolve_right (fun h9 => h9.1 (Or.inl hr1))).2⟩, by rw [ht]; exact hP, va_K.moved ha hK, hD⟩, hS.F ht⟩) hS.2.2 (Nat.le_of_ble_eq_true rfl) (Nat.le_of_ble_eq_true rfl)
  · skip
    refine hw_callN (W.runS (As := [.int r]) (rest := []) ⟨hx, hb, hml, hown, hts⟩ (c_X0_checkRegister l hr1) (va_cwS 1 hts gw_X0_42 rfl rfl rfl ⟨by decide, by decide, by decide +kernel⟩ ⟨Nat.le_of_ble_eq_true rfl, Nat.le_of_ble_eq_true rfl⟩) preEq rfl rfl hl.1 rfl (lv_room (Nat.le_of_ble_eq_true rfl)) dX0_follow_1 ⟨by decide, by decide⟩) ?_
    refine lv_iload_n hx hb dX0_follow_4 rfl (lv_at hl 2 rfl) ?_
    by_cases ht1 : hp_bad t 16
    · skip
      refine hx_throws (vx_runS (As := [.int t]) (rest := []) ⟨hx, hb, hml, hown, hts⟩ (x_X0_checkRegister l hl9 dC dI _ ht1) (va_cwS 1 hts gw_X0_42 rfl rfl rfl ⟨by decide, by decide, by decide +kernel⟩ ⟨Nat.le_of_ble_eq_true rfl, Nat.le_of_ble_eq_true rfl⟩) ⟨hx_blind, hx_pay hx_P0 (hK.sub (tys' := []) [] rfl) hx_D0 hS hA hZ⟩ rfl rfl hl.1 rfl (lv_room (Nat.le_of_ble_eq_true rfl)) dX0_follow_5 ⟨by decide, by decide⟩) hP hS hA (fun E ce9 q9 H locs hb9 hP hS h1 h2 h3 => ?_)
      subst hQ9
      exact vx_out (fun x hx => (hEx x hx).elim) hlocks h1 h2 h3 (fun t ht ha => ⟨(), trivial, ⟨Or.inl ⟨hb9, (hk.resolve_right (fun h9 => h9.1 (Or.inr ht1))).2⟩, by rw [ht]; exact hP, va_K.moved ha hK, hD⟩, hS.F ht⟩) hS.2.2 (Nat.le_of_ble_eq_true rfl) (Nat.le_of_ble_eq_true rfl)
    · skip
      refine hw_callN (W.runS (As := [.int t]) (rest := []) ⟨hx, hb, hml, hown, hts⟩ (c_X0_checkRegister l ht1) (va_cwS 1 hts gw_X0_42 rfl rfl rfl ⟨by decide, by decide, by decide +kernel⟩ ⟨Nat.le_of_ble_eq_true rfl, Nat.le_of_ble_eq_true rfl⟩) preEq rfl rfl hl.1 rfl (lv_room (Nat.le_of_ble_eq_true rfl)) dX0_follow_5 ⟨by decide, by decide⟩) ?_
      have hcd := (hk.resolve_left (fun h9 => h9.1.elim hr1 ht1)).2
      obtain ⟨j, hj, rfl⟩ := hp_ok' ht1
      rw [hp_at_n hj] at hcd
      refine lv_aload_n hx hb dX0_follow_8 rfl (lv_at hl 0 rfl) ?_
      refine va_get (D := (dC, dI)) (ci := 0) (v := .ref a2) (C := RX0) (T := TX0) (N := 8) hx hb hts inX0 hown hK hP 0 rfl rfl 1 (by decide) (hts _ bw_fl_X0_13) (fun _ h9 => h9) rfl dX0_follow_9 ?_
      refine lv_iload_n hx hb dX0_follow_12 rfl (lv_at hl 2 rfl) ?_
      refine hw_iald (j := j) hx hb hK hP 2 1 rfl rfl (rfl) (hj) (by decide) dX0_follow_13 ?_
      refine hw_topi (y := hp_e M (hp_r M j)) (hC.2.2.2.1 j hj) ?_
      refine lv_istore hx hb dX0_follow_14 hl (by decide) rfl (fun ls hl => ?_)
      have hl : lv_has ls 5 [(4, .int (hp_e M (hp_r M j))), (0, .ref h0), (1, .int r), (2, .int (nI j)), (3, .int i)] := hl
      refine lv_iload hx hb dX0_follow_16 (lv_at hl 0 rfl) ?_
      by_cases h00 : hp_r M j = 0
      · skip
        refine hx_throws (vx_runS (As := [.int (hp_e M (hp_r M j))]) (rest := []) ⟨hx, hb, hml, hown, hts⟩ (x_X0_checkNotNull l hl9 dC dI _ ((hp_null hW (hW.2.2.2.1 j hj)).mpr h00)) (va_cwS 1 hts gw_X0_56 rfl rfl rfl ⟨by decide, by decide, by decide +kernel⟩ ⟨Nat.le_of_ble_eq_true rfl, Nat.le_of_ble_eq_true rfl⟩) ⟨hx_blind, hx_pay hx_P0 (hK.sub (tys' := []) [] rfl) hx_D0 hS hA hZ⟩ rfl rfl hl.1 rfl (lv_room (Nat.le_of_ble_eq_true rfl)) dX0_follow_18 ⟨by decide, by decide⟩) hP hS hA (fun E ce9 q9 H locs hb9 hP hS h1 h2 h3 => ?_)
        subst hQ9
        exact vx_out (fun x hx => (hEx x hx).elim) hlocks h1 h2 h3 (fun t ht ha => ⟨(), trivial, ⟨Or.inr ⟨hb9, hp_cd_0 h00 hcd⟩, by rw [ht]; exact hP, va_K.moved ha hK, hD⟩, hS.F ht⟩) hS.2.2 (Nat.le_of_ble_eq_true rfl) (Nat.le_of_ble_eq_true rfl)
      · skip
        have hoL := (hW.2.2.2.1 j hj).resolve_left h00
        have hcell := hC.2.2.2.2 _ hoL
        have hlt := hp_pl_lt hW hoL
        have hz9 := (hW.2.1 _ hoL).2.2.2.2.1
        refine hw_callN (W.runS (As := [.int (hp_e M (hp_r M j))]) (rest := []) ⟨hx, hb, hml, hown, hts⟩ (c_X0_checkNotNull l (fun h9 => h00 ((hp_null hW (hW.2.2.2.1 j hj)).mp h9))) (va_cwS 1 hts gw_X0_56 rfl rfl rfl ⟨by decide, by decide, by decide +kernel⟩ ⟨Nat.le_of_ble_eq_true rfl, Nat.le_of_ble_eq_true rfl⟩) preEq rfl rfl hl.1 rfl (lv_room (Nat.le_of_ble_eq_true rfl)) dX0_follow_18 ⟨by decide, by decide⟩) ?_
        refine lv_aload_n hx hb dX0_follow_21 rfl (lv_at hl 1 rfl) ?_
        refine lv_iload hx hb dX0_follow_22 (lv_at hl 0 rfl) ?_
        refine hw_topi (y := nI (hp_pl M (hp_r M j))) (hp_en h00) ?_
        refine W.callR (W.runV (As := [.int (nI (hp_pl M (hp_r M j)))]) (rest := []) ⟨hx, hb, hml, hown, hts⟩ (c_X0_kindAt l dC dI h0 a1 a2 a3 a4 c1 c2 c3 c4 ce rg tk ob co re rc np _ (by omega)) (cwV 1 hts gw_X0_59 rfl rfl rfl ⟨rfl, by decide, by decide, by decide +kernel⟩ ⟨Nat.le_of_ble_eq_true rfl, Nat.le_of_ble_eq_true rfl⟩) ⟨hw_blind, va_recv (q0 := 0) (ci := 0) (q := (RX0, TX0, 8)) hK hP rfl rfl, hw_pay hP hK hD⟩ rfl rfl hl.1 rfl (lv_room (Nat.le_of_ble_eq_true rfl)) dX0_follow_24 ⟨by decide, by decide⟩) ?_
        refine W.eq (g2 := F0 m 27 ls [.int ((ce (hp_pl M (hp_r M j))).toInt32 &&& 3)]) rfl ?_
        refine hw_topi (y := nI (hp_k M (hp_r M j))) (hp_rkind hW hoL hcell.1) ?_
        refine lv_iconst (v := 2) hx hb dX0_follow_27 (by decide) ?_
        refine lv_icmp_eq hx hb dX0_follow_28 (tgt := 35) (by decide) (fun hc => ?_) (fun hc => ?_)
        · have hkk : ¬ hp_k M (hp_r M j) ≠ 2 := fun h9 => h9 ((hp_k1 hW hoL (n := 2) (by decide)).mp hc)
          refine lv_iconst (v := 0) hx hb dX0_follow_35 (by decide) ?_
          refine hx_throws (vx_runS (As := [.int 0]) (rest := []) ⟨hx, hb, hml, hown, hts⟩ (x_X0_checkKind l hl9 dC dI _ ) (va_cwS 1 hts gw_X0_63 rfl rfl rfl ⟨by decide, by decide, by decide +kernel⟩ ⟨Nat.le_of_ble_eq_true rfl, Nat.le_of_ble_eq_true rfl⟩) ⟨hx_blind, hx_pay hx_P0 (hK.sub (tys' := []) [] rfl) hx_D0 hS hA hZ⟩ rfl rfl hl.1 rfl (lv_room (Nat.le_of_ble_eq_true rfl)) dX0_follow_36 ⟨by decide, by decide⟩) hP hS hA (fun E ce9 q9 H locs hb9 hP hS h1 h2 h3 => ?_)
          subst hQ9
          exact vx_out (fun x hx => (hEx x hx).elim) hlocks h1 h2 h3 (fun t ht ha => ⟨(), trivial, ⟨Or.inl ⟨hb9, hp_cd_1 h00 (Or.inl hkk) hcd⟩, by rw [ht]; exact hP, va_K.moved ha hK, hD⟩, hS.F ht⟩) hS.2.2 (Nat.le_of_ble_eq_true rfl) (Nat.le_of_ble_eq_true rfl)
        · have hkk : hp_k M (hp_r M j) ≠ 2 := fun h9 => hc (by rw [h9]; decide)
          refine lv_iconst (v := 1) hx hb dX0_follow_31 (by decide) ?_
          refine lv_goto hx hb dX0_follow_32 (tgt := 36) (by decide) ?_
          refine hw_callN (W.runS (As := [.int 1]) (rest := []) ⟨hx, hb, hml, hown, hts⟩ (c_X0_checkKind l ) (va_cwS 1 hts gw_X0_63 rfl rfl rfl ⟨by decide, by decide, by decide +kernel⟩ ⟨Nat.le_of_ble_eq_true rfl, Nat.le_of_ble_eq_true rfl⟩) preEq rfl rfl hl.1 rfl (lv_room (Nat.le_of_ble_eq_true rfl)) dX0_follow_36 ⟨by decide, by decide⟩) ?_
          refine lv_iload_n hx hb dX0_follow_39 rfl (lv_at hl 4 rfl) ?_
          refine lv_aload_n hx hb dX0_follow_40 rfl (lv_at hl 1 rfl) ?_
          refine lv_iload hx hb dX0_follow_41 (lv_at hl 0 rfl) ?_
          refine hw_topi (y := nI (hp_pl M (hp_r M j))) (hp_en h00) ?_
          refine W.callR (W.runV (As := [.int (nI (hp_pl M (hp_r M j)))]) (rest := [.int i]) ⟨hx, hb, hml, hown, hts⟩ (c_X0_lengthAt l dC dI h0 a1 a2 a3 a4 c1 c2 c3 c4 ce rg tk ob co re rc np _ (by omega)) (cwV 1 hts gw_X0_67 rfl rfl rfl ⟨rfl, by decide, by decide, by decide +kernel⟩ ⟨Nat.le_of_ble_eq_true rfl, Nat.le_of_ble_eq_true rfl⟩) ⟨hw_blind, va_recv (q0 := 0) (ci := 0) (q := (RX0, TX0, 8)) hK hP rfl rfl, hw_pay hP hK hD⟩ rfl rfl hl.1 rfl (lv_room (Nat.le_of_ble_eq_true rfl)) dX0_follow_43 ⟨by decide, by decide⟩) ?_
          refine W.eq (g2 := F0 m 46 ls [.int ((ce (hp_pl M (hp_r M j))).toInt32 >>> ((2 : Int32) &&& 31)), .int i]) rfl ?_
          refine hw_topi (y := nI (hp_z M (hp_r M j))) (hp_rlen hW hoL hcell.1) ?_
          by_cases hq1 : hp_bad i (hp_z M (hp_r M j))
          · skip
            refine hx_throws (vx_runS (As := [.int i, .int (nI (hp_z M (hp_r M j)))]) (rest := []) ⟨hx, hb, hml, hown, hts⟩ (x_X0_checkBelow l hl9 dC dI _ hq1) (va_cwS 2 hts gw_X0_46 rfl rfl rfl ⟨by decide, by decide, by decide +kernel⟩ ⟨Nat.le_of_ble_eq_true rfl, Nat.le_of_ble_eq_true rfl⟩) ⟨hx_blind, hx_pay hx_P0 (hK.sub (tys' := []) [] rfl) hx_D0 hS hA hZ⟩ rfl rfl hl.1 rfl (lv_room (Nat.le_of_ble_eq_true rfl)) dX0_follow_46 ⟨by decide, by decide⟩) hP hS hA (fun E ce9 q9 H locs hb9 hP hS h1 h2 h3 => ?_)
            subst hQ9
            exact vx_out (fun x hx => (hEx x hx).elim) hlocks h1 h2 h3 (fun t ht ha => ⟨(), trivial, ⟨Or.inl ⟨hb9, hp_cd_1 h00 (Or.inr hq1) hcd⟩, by rw [ht]; exact hP, va_K.moved ha hK, hD⟩, hS.F ht⟩) hS.2.2 (Nat.le_of_ble_eq_true rfl) (Nat.le_of_ble_eq_true rfl)
          · skip
            refine hw_callN (W.runS (As := [.int i, .int (nI (hp_z M (hp_r M j)))]) (rest := []) ⟨hx, hb, hml, hown, hts⟩ (c_X0_checkBelow l hq1) (va_cwS 2 hts gw_X0_46 rfl rfl rfl ⟨by decide, by decide, by decide +kernel⟩ ⟨Nat.le_of_ble_eq_true rfl, Nat.le_of_ble_eq_true rfl⟩) preEq rfl rfl hl.1 rfl (lv_room (Nat.le_of_ble_eq_true rfl)) dX0_follow_46 ⟨by decide, by decide⟩) ?_
            exact absurd (hp_cd_ok h00 hkk hq1 hcd) hk0

set_option maxHeartbeats 4000000 in
set_option maxRecDepth 100000 in
theorem x_X0_numberCell (l : Launch) (dC : Nat → ClassId) (dI : Nat → Nat → Nat) (h0 a1 a2 a3 a4 : Nat) (c1 c2 c3 c4 : ClassId) (ce : Nat → Int64) (rg : Nat → Int32) (tk ob co : Int32) (re : Nat → Int32) (rc : Int32) (np : Nat → Int32) (sz : Nat) (hl9 : l.stackTraces = false) (M : hp_S) (hW : hp_W M) (hC : hp_C M ce rg tk ob co) (r i : Int32) (k : Nat) (hk : hp_lk M (hp_bad r 16) (hp_at M r) i (hp_k M (hp_at M r) = 2) k) (hk0 : k ≠ 0) : vx_Met l yX0_numberCell wsX0_numberCell ({ frames := 8, cells := 1, slots := 6, locals := 131 }) (va_Pc [.ref h0, .int r, .int i] (hx_pre (dC, dI) vwCl [(c1, .long), (c2, .int), (c3, .int), (c4, .int)] [(h0, .inr (0, [.ref a1, .ref a2, .int tk, .int ob, .int co, .ref a3, .int rc, .ref a4])), (a1, .inl (c1, 300, .inr (.inl ce))), (a2, .inl (c2, 16, .inl rg)), (a3, .inl (c3, 300, .inl re)), (a4, .inl (c4, 300, .inl np))] sz)) (fun _ _ _ _ => False) (vx_X (fun _ : Unit => True) (fun E u t => (fun (E : String) (_ : Unit) => hp_E2 E k) E u ∧ hw_B (dC, dI) vwCl [(c1, .long), (c2, .int), (c3, .int), (c4, .int)] (va_A [(h0, .inr (0, [.ref a1, .ref a2, .int tk, .int ob, .int co, .ref a3, .int rc, .ref a4])), (a1, .inl (c1, 300, .inr (.inl ce))), (a2, .inl (c2, 16, .inl rg)), (a3, .inl (c3, 300, .inl re)), (a4, .inl (c4, 300, .inl np))] sz) ((fun _ : Unit => [(h0, .inr (0, [.ref a1, .ref a2, .int tk, .int ob, .int co, .ref a3, .int rc, .ref a4])), (a1, .inl (c1, 300, .inr (.inl ce))), (a2, .inl (c2, 16, .inl rg)), (a3, .inl (c3, 300, .inl re)), (a4, .inl (c4, 300, .inl np))]) u) t) (va_A [(h0, .inr (0, [.ref a1, .ref a2, .int tk, .int ob, .int co, .ref a3, .int rc, .ref a4])), (a1, .inl (c1, 300, .inr (.inl ce))), (a2, .inl (c2, 16, .inl rg)), (a3, .inl (c3, 300, .inl re)), (a4, .inl (c4, 300, .inl np))] sz)) 1 6 (va_A [(h0, .inr (0, [.ref a1, .ref a2, .int tk, .int ob, .int co, .ref a3, .int rc, .ref a4])), (a1, .inl (c1, 300, .inr (.inl ce))), (a2, .inl (c2, 16, .inl rg)), (a3, .inl (c3, 300, .inl re)), (a4, .inl (c4, 300, .inl np))] sz) := by
  refine vx_ofW (cc := cX0_numberCell) (maxL := 4) (ret := some .int) (by decide) rfl ?_
  intro p e s m args below meth c s₁ B hml hEx hv
  obtain ⟨hargs, hsz, hP, hK, hD0, hZ⟩ := hv
  have hx := B.exec
  have hb := B.bytes
  have hr := B.returns
  have hts : ∀ w ∈ wb, w.before _ s = true := fun w h => atoms_spec (ws := wsX0_numberCell) B.pre w (List.mem_cons_of_mem _ h)
  have hown : s.vm.findClass RX0 = some m.cls := findClass_of_methodNamed B.named
  have hlocks := B.notSynchronized
  subst hsz
  have hD := hD0.self (sz := s.heap.size)
  generalize hAe : va_A [(h0, .inr (0, [.ref a1, .ref a2, .int tk, .int ob, .int co, .ref a3, .int rc, .ref a4])), (a1, .inl (c1, 300, .inr (.inl ce))), (a2, .inl (c2, 16, .inl rg)), (a3, .inl (c3, 300, .inl re)), (a4, .inl (c4, 300, .inl np))] s.heap.size = A at hD hZ ⊢
  have hA : ∀ q : Nat, s.heap.size ≤ q → A q := fun q h => by rw [← hAe]; exact Or.inr h
  have hS : va_S A s.heap s.heap [] := va_S.rf
  generalize hQ9 : vx_MQ below (fun _ _ _ _ => False) (vx_X (fun _ : Unit => True) (fun E u t => (fun (E : String) (_ : Unit) => hp_E2 E k) E u ∧ hw_B (dC, dI) vwCl [(c1, .long), (c2, .int), (c3, .int), (c4, .int)] A ((fun _ : Unit => [(h0, .inr (0, [.ref a1, .ref a2, .int tk, .int ob, .int co, .ref a3, .int rc, .ref a4])), (a1, .inl (c1, 300, .inr (.inl ce))), (a2, .inl (c2, 16, .inl rg)), (a3, .inl (c3, 300, .inl re)), (a4, .inl (c4, 300, .inl np))]) u) t) A) args s 1 6 A = Q9
  have hl := lv_entry ([.ref h0, .int r, .int i]) (n := 4) (Nat.le_of_ble_eq_true rfl)
  rw [show entryFrame m args 4 = _ from (congrArg (fun z => entryFrame m z 4) hargs).trans (lg_entry_eq m [.ref h0, .int r, .int i] 4)]
  generalize (lg_sl ([.ref h0, .int r, .int i]) ++ List.replicate (4 - (lg_sl ([.ref h0, .int r, .int i])).length) Slot.unset).toArray = ls at hl ⊢
  have hl : lv_has ls 4 [(0, .ref h0), (1, .int r), (2, .int i)] := hl
  obtain ⟨H, hH⟩ : ∃ H, H = s.heap := ⟨_, rfl⟩
  rw [← hH] at hP
  have hS : va_S A s.heap H [] := by rw [hH]; exact hS
  rw [← hH]
  generalize ([] : List Loc) = locs at hS ⊢
  refine lv_iload_n hx hb dX0_numberCell_0 rfl (lv_at hl 1 rfl) ?_
  by_cases hr1 : hp_bad r 16
  · skip
    refine hx_throws (vx_runS (As := [.int r]) (rest := []) ⟨hx, hb, hml, hown, hts⟩ (x_X0_checkRegister l hl9 dC dI _ hr1) (va_cwS 1 hts gw_X0_42 rfl rfl rfl ⟨by decide, by decide, by decide +kernel⟩ ⟨Nat.le_of_ble_eq_true rfl, Nat.le_of_ble_eq_true rfl⟩) ⟨hx_blind, hx_pay hx_P0 (hK.sub (tys' := []) [] rfl) hx_D0 hS hA hZ⟩ rfl rfl hl.1 rfl (lv_room (Nat.le_of_ble_eq_true rfl)) dX0_numberCell_1 ⟨by decide, by decide⟩) hP hS hA (fun E ce9 q9 H locs hb9 hP hS h1 h2 h3 => ?_)
    subst hQ9
    exact vx_out (fun x hx => (hEx x hx).elim) hlocks h1 h2 h3 (fun t ht ha => ⟨(), trivial, ⟨Or.inl ⟨hb9, (hk.resolve_right (fun h9 => h9.1 hr1)).2⟩, by rw [ht]; exact hP, va_K.moved ha hK, hD⟩, hS.F ht⟩) hS.2.2 (Nat.le_of_ble_eq_true rfl) (Nat.le_of_ble_eq_true rfl)
  · skip
    refine hw_callN (W.runS (As := [.int r]) (rest := []) ⟨hx, hb, hml, hown, hts⟩ (c_X0_checkRegister l hr1) (va_cwS 1 hts gw_X0_42 rfl rfl rfl ⟨by decide, by decide, by decide +kernel⟩ ⟨Nat.le_of_ble_eq_true rfl, Nat.le_of_ble_eq_true rfl⟩) preEq rfl rfl hl.1 rfl (lv_room (Nat.le_of_ble_eq_true rfl)) dX0_numberCell_1 ⟨by decide, by decide⟩) ?_
    have hcd := (hk.resolve_left (fun h9 => hr1 h9.1)).2
    obtain ⟨j, hj, rfl⟩ := hp_ok' hr1
    rw [hp_at_n hj] at hcd
    refine lv_aload_n hx hb dX0_numberCell_4 rfl (lv_at hl 0 rfl) ?_
    refine va_get (D := (dC, dI)) (ci := 0) (v := .ref a2) (C := RX0) (T := TX0) (N := 8) hx hb hts inX0 hown hK hP 0 rfl rfl 1 (by decide) (hts _ bw_fl_X0_13) (fun _ h9 => h9) rfl dX0_numberCell_5 ?_
    refine lv_iload_n hx hb dX0_numberCell_8 rfl (lv_at hl 1 rfl) ?_
    refine hw_iald (j := j) hx hb hK hP 2 1 rfl rfl (rfl) (hj) (by decide) dX0_numberCell_9 ?_
    refine hw_topi (y := hp_e M (hp_r M j)) (hC.2.2.2.1 j hj) ?_
    refine lv_istore_n hx hb dX0_numberCell_10 rfl hl (by decide) rfl (fun ls hl => ?_)
    have hl : lv_has ls 4 [(3, .int (hp_e M (hp_r M j))), (0, .ref h0), (1, .int (nI j)), (2, .int i)] := hl
    refine lv_iload_n hx hb dX0_numberCell_11 rfl (lv_at hl 0 rfl) ?_
    by_cases h00 : hp_r M j = 0
    · skip
      refine hx_throws (vx_runS (As := [.int (hp_e M (hp_r M j))]) (rest := []) ⟨hx, hb, hml, hown, hts⟩ (x_X0_checkNotNull l hl9 dC dI _ ((hp_null hW (hW.2.2.2.1 j hj)).mpr h00)) (va_cwS 1 hts gw_X0_56 rfl rfl rfl ⟨by decide, by decide, by decide +kernel⟩ ⟨Nat.le_of_ble_eq_true rfl, Nat.le_of_ble_eq_true rfl⟩) ⟨hx_blind, hx_pay hx_P0 (hK.sub (tys' := []) [] rfl) hx_D0 hS hA hZ⟩ rfl rfl hl.1 rfl (lv_room (Nat.le_of_ble_eq_true rfl)) dX0_numberCell_12 ⟨by decide, by decide⟩) hP hS hA (fun E ce9 q9 H locs hb9 hP hS h1 h2 h3 => ?_)
      subst hQ9
      exact vx_out (fun x hx => (hEx x hx).elim) hlocks h1 h2 h3 (fun t ht ha => ⟨(), trivial, ⟨Or.inr ⟨hb9, hp_cd_0 h00 hcd⟩, by rw [ht]; exact hP, va_K.moved ha hK, hD⟩, hS.F ht⟩) hS.2.2 (Nat.le_of_ble_eq_true rfl) (Nat.le_of_ble_eq_true rfl)
    · skip
      have hoL := (hW.2.2.2.1 j hj).resolve_left h00
      have hcell := hC.2.2.2.2 _ hoL
      have hlt := hp_pl_lt hW hoL
      have hz9 := (hW.2.1 _ hoL).2.2.2.2.1
      refine hw_callN (W.runS (As := [.int (hp_e M (hp_r M j))]) (rest := []) ⟨hx, hb, hml, hown, hts⟩ (c_X0_checkNotNull l (fun h9 => h00 ((hp_null hW (hW.2.2.2.1 j hj)).mp h9))) (va_cwS 1 hts gw_X0_56 rfl rfl rfl ⟨by decide, by decide, by decide +kernel⟩ ⟨Nat.le_of_ble_eq_true rfl, Nat.le_of_ble_eq_true rfl⟩) preEq rfl rfl hl.1 rfl (lv_room (Nat.le_of_ble_eq_true rfl)) dX0_numberCell_12 ⟨by decide, by decide⟩) ?_
      refine lv_aload_n hx hb dX0_numberCell_15 rfl (lv_at hl 1 rfl) ?_
      refine lv_iload_n hx hb dX0_numberCell_16 rfl (lv_at hl 0 rfl) ?_
      refine hw_topi (y := nI (hp_pl M (hp_r M j))) (hp_en h00) ?_
      refine W.callR (W.runV (As := [.int (nI (hp_pl M (hp_r M j)))]) (rest := []) ⟨hx, hb, hml, hown, hts⟩ (c_X0_kindAt l dC dI h0 a1 a2 a3 a4 c1 c2 c3 c4 ce rg tk ob co re rc np _ (by omega)) (cwV 1 hts gw_X0_59 rfl rfl rfl ⟨rfl, by decide, by decide, by decide +kernel⟩ ⟨Nat.le_of_ble_eq_true rfl, Nat.le_of_ble_eq_true rfl⟩) ⟨hw_blind, va_recv (q0 := 0) (ci := 0) (q := (RX0, TX0, 8)) hK hP rfl rfl, hw_pay hP hK hD⟩ rfl rfl hl.1 rfl (lv_room (Nat.le_of_ble_eq_true rfl)) dX0_numberCell_17 ⟨by decide, by decide⟩) ?_
      refine W.eq (g2 := F0 m 20 ls [.int ((ce (hp_pl M (hp_r M j))).toInt32 &&& 3)]) rfl ?_
      refine hw_topi (y := nI (hp_k M (hp_r M j))) (hp_rkind hW hoL hcell.1) ?_
      refine lv_iconst (v := 2) hx hb dX0_numberCell_20 (by decide) ?_
      refine lv_icmp_ne hx hb dX0_numberCell_21 (tgt := 28) (by decide) (fun hc => ?_) (fun hc => ?_)
      · have hkk : ¬ hp_k M (hp_r M j) = 2 := fun h9 => hc (by rw [h9]; decide)
        refine lv_iconst (v := 0) hx hb dX0_numberCell_28 (by decide) ?_
        refine hx_throws (vx_runS (As := [.int 0]) (rest := []) ⟨hx, hb, hml, hown, hts⟩ (x_X0_checkKind l hl9 dC dI _ ) (va_cwS 1 hts gw_X0_63 rfl rfl rfl ⟨by decide, by decide, by decide +kernel⟩ ⟨Nat.le_of_ble_eq_true rfl, Nat.le_of_ble_eq_true rfl⟩) ⟨hx_blind, hx_pay hx_P0 (hK.sub (tys' := []) [] rfl) hx_D0 hS hA hZ⟩ rfl rfl hl.1 rfl (lv_room (Nat.le_of_ble_eq_true rfl)) dX0_numberCell_29 ⟨by decide, by decide⟩) hP hS hA (fun E ce9 q9 H locs hb9 hP hS h1 h2 h3 => ?_)
        subst hQ9
        exact vx_out (fun x hx => (hEx x hx).elim) hlocks h1 h2 h3 (fun t ht ha => ⟨(), trivial, ⟨Or.inl ⟨hb9, hp_cd_1 h00 (Or.inl hkk) hcd⟩, by rw [ht]; exact hP, va_K.moved ha hK, hD⟩, hS.F ht⟩) hS.2.2 (Nat.le_of_ble_eq_true rfl) (Nat.le_of_ble_eq_true rfl)
      · have hkk : hp_k M (hp_r M j) = 2 := (hp_k1 hW hoL (n := 2) (by decide)).mp hc
        refine lv_iconst (v := 1) hx hb dX0_numberCell_24 (by decide) ?_
        refine lv_goto hx hb dX0_numberCell_25 (tgt := 29) (by decide) ?_
        refine hw_callN (W.runS (As := [.int 1]) (rest := []) ⟨hx, hb, hml, hown, hts⟩ (c_X0_checkKind l ) (va_cwS 1 hts gw_X0_63 rfl rfl rfl ⟨by decide, by decide, by decide +kernel⟩ ⟨Nat.le_of_ble_eq_true rfl, Nat.le_of_ble_eq_true rfl⟩) preEq rfl rfl hl.1 rfl (lv_room (Nat.le_of_ble_eq_true rfl)) dX0_numberCell_29 ⟨by decide, by decide⟩) ?_
        refine lv_iload_n hx hb dX0_numberCell_32 rfl (lv_at hl 3 rfl) ?_
        refine lv_aload_n hx hb dX0_numberCell_33 rfl (lv_at hl 1 rfl) ?_
        refine lv_iload_n hx hb dX0_numberCell_34 rfl (lv_at hl 0 rfl) ?_
        refine hw_topi (y := nI (hp_pl M (hp_r M j))) (hp_en h00) ?_
        refine W.callR (W.runV (As := [.int (nI (hp_pl M (hp_r M j)))]) (rest := [.int i]) ⟨hx, hb, hml, hown, hts⟩ (c_X0_lengthAt l dC dI h0 a1 a2 a3 a4 c1 c2 c3 c4 ce rg tk ob co re rc np _ (by omega)) (cwV 1 hts gw_X0_67 rfl rfl rfl ⟨rfl, by decide, by decide, by decide +kernel⟩ ⟨Nat.le_of_ble_eq_true rfl, Nat.le_of_ble_eq_true rfl⟩) ⟨hw_blind, va_recv (q0 := 0) (ci := 0) (q := (RX0, TX0, 8)) hK hP rfl rfl, hw_pay hP hK hD⟩ rfl rfl hl.1 rfl (lv_room (Nat.le_of_ble_eq_true rfl)) dX0_numberCell_35 ⟨by decide, by decide⟩) ?_
        refine W.eq (g2 := F0 m 38 ls [.int ((ce (hp_pl M (hp_r M j))).toInt32 >>> ((2 : Int32) &&& 31)), .int i]) rfl ?_
        refine hw_topi (y := nI (hp_z M (hp_r M j))) (hp_rlen hW hoL hcell.1) ?_
        by_cases hq1 : hp_bad i (hp_z M (hp_r M j))
        · skip
          refine hx_throws (vx_runS (As := [.int i, .int (nI (hp_z M (hp_r M j)))]) (rest := []) ⟨hx, hb, hml, hown, hts⟩ (x_X0_checkBelow l hl9 dC dI _ hq1) (va_cwS 2 hts gw_X0_46 rfl rfl rfl ⟨by decide, by decide, by decide +kernel⟩ ⟨Nat.le_of_ble_eq_true rfl, Nat.le_of_ble_eq_true rfl⟩) ⟨hx_blind, hx_pay hx_P0 (hK.sub (tys' := []) [] rfl) hx_D0 hS hA hZ⟩ rfl rfl hl.1 rfl (lv_room (Nat.le_of_ble_eq_true rfl)) dX0_numberCell_38 ⟨by decide, by decide⟩) hP hS hA (fun E ce9 q9 H locs hb9 hP hS h1 h2 h3 => ?_)
          subst hQ9
          exact vx_out (fun x hx => (hEx x hx).elim) hlocks h1 h2 h3 (fun t ht ha => ⟨(), trivial, ⟨Or.inl ⟨hb9, hp_cd_1 h00 (Or.inr hq1) hcd⟩, by rw [ht]; exact hP, va_K.moved ha hK, hD⟩, hS.F ht⟩) hS.2.2 (Nat.le_of_ble_eq_true rfl) (Nat.le_of_ble_eq_true rfl)
        · skip
          refine hw_callN (W.runS (As := [.int i, .int (nI (hp_z M (hp_r M j)))]) (rest := []) ⟨hx, hb, hml, hown, hts⟩ (c_X0_checkBelow l hq1) (va_cwS 2 hts gw_X0_46 rfl rfl rfl ⟨by decide, by decide, by decide +kernel⟩ ⟨Nat.le_of_ble_eq_true rfl, Nat.le_of_ble_eq_true rfl⟩) preEq rfl rfl hl.1 rfl (lv_room (Nat.le_of_ble_eq_true rfl)) dX0_numberCell_38 ⟨by decide, by decide⟩) ?_
          exact absurd (hp_cd_ok h00 hkk hq1 hcd) hk0

set_option maxHeartbeats 4000000 in
set_option maxRecDepth 100000 in
theorem c_X0_numberCell (l : Launch) (dC : Nat → ClassId) (dI : Nat → Nat → Nat) (h0 a1 a2 a3 a4 : Nat) (c1 c2 c3 c4 : ClassId) (ce : Nat → Int64) (rg : Nat → Int32) (tk ob co : Int32) (re : Nat → Int32) (rc : Int32) (np : Nat → Int32) (sz : Nat) (M : hp_S) (hW : hp_W M) (hC : hp_C M ce rg tk ob co) (j q : Nat) (hj : j < 16) (h0n : hp_r M j ≠ 0) (hk1 : hp_k M (hp_r M j) = 2) (hq : q < hp_z M (hp_r M j)) : Met l yX0_numberCell wsX0_numberCell ({ frames := 2, cells := 0, slots := 0, locals := 41 }) (va_Pc [.ref h0, .int (nI j), .int (nI q)] (hw_pre (dC, dI) vwCl [(c1, .long), (c2, .int), (c3, .int), (c4, .int)] [(h0, .inr (0, [.ref a1, .ref a2, .int tk, .int ob, .int co, .ref a3, .int rc, .ref a4])), (a1, .inl (c1, 300, .inr (.inl ce))), (a2, .inl (c2, 16, .inl rg)), (a3, .inl (c3, 300, .inl re)), (a4, .inl (c4, 300, .inl np))] sz)) (QcRead (nI (hp_pl M (hp_r M j) + (1 + q)))) 0 0 (fun _ => False) := by
  refine Met.ofW (cc := cX0_numberCell) (maxL := 4) (ret := some .int) (by decide) rfl ?_
  intro p e s m args below meth c s₁ B hml hv
  obtain ⟨rfl, hsz, hP, hK, hD0⟩ := hv
  have hx := B.exec
  have hb := B.bytes
  have hr := B.returns
  have hts : ∀ w ∈ wb, w.before _ s = true := fun w h => atoms_spec (ws := wsX0_numberCell) B.pre w (List.mem_cons_of_mem _ h)
  have hown : s.vm.findClass RX0 = some m.cls := findClass_of_methodNamed B.named
  have hlocks := B.notSynchronized
  subst hsz
  have hD := hD0
  have hl := lv_entry ([.ref h0, .int (nI j), .int (nI q)]) (n := 4) (Nat.le_of_ble_eq_true rfl)
  rw [lg_entry_eq]
  generalize (lg_sl ([.ref h0, .int (nI j), .int (nI q)]) ++ List.replicate (4 - (lg_sl ([.ref h0, .int (nI j), .int (nI q)])).length) Slot.unset).toArray = ls at hl ⊢
  have hl : lv_has ls 4 [(0, .ref h0), (1, .int (nI j)), (2, .int (nI q))] := hl
  refine lv_iload_n hx hb dX0_numberCell_0 rfl (lv_at hl 1 rfl) ?_
  have hoL := (hW.2.2.2.1 j hj).resolve_left h0n
  have hcell := hC.2.2.2.2 _ hoL
  have hlt := hp_pl_lt hW hoL
  have hz9 := (hW.2.1 _ hoL).2.2.2.2.1
  refine hw_callN (W.runS (As := [.int (nI j)]) (rest := []) ⟨hx, hb, hml, hown, hts⟩ (c_X0_checkRegister l (hp_ok2 hj (by decide))) (va_cwS 1 hts gw_X0_42 rfl rfl rfl ⟨by decide, by decide, by decide +kernel⟩ ⟨Nat.le_of_ble_eq_true rfl, Nat.le_of_ble_eq_true rfl⟩) preEq rfl rfl hl.1 rfl (lv_room (Nat.le_of_ble_eq_true rfl)) dX0_numberCell_1 ⟨by decide, by decide⟩) ?_
  refine lv_aload_n hx hb dX0_numberCell_4 rfl (lv_at hl 0 rfl) ?_
  refine va_get (D := (dC, dI)) (ci := 0) (v := .ref a2) (C := RX0) (T := TX0) (N := 8) hx hb hts inX0 hown hK hP 0 rfl rfl 1 (by decide) (hts _ bw_fl_X0_13) (fun _ h9 => h9) rfl dX0_numberCell_5 ?_
  refine lv_iload_n hx hb dX0_numberCell_8 rfl (lv_at hl 1 rfl) ?_
  refine hw_iald (j := j) hx hb hK hP 2 1 rfl rfl (rfl) (hj) (by decide) dX0_numberCell_9 ?_
  refine hw_topi (y := nI (hp_pl M (hp_r M j))) ((hC.2.2.2.1 j hj).trans (hp_en h0n)) ?_
  refine lv_istore_n hx hb dX0_numberCell_10 rfl hl (by decide) rfl (fun ls hl => ?_)
  have hl : lv_has ls 4 [(3, .int (nI (hp_pl M (hp_r M j)))), (0, .ref h0), (1, .int (nI j)), (2, .int (nI q))] := hl
  refine lv_iload_n hx hb dX0_numberCell_11 rfl (lv_at hl 0 rfl) ?_
  refine hw_callN (W.runS (As := [.int (nI (hp_pl M (hp_r M j)))]) (rest := []) ⟨hx, hb, hml, hown, hts⟩ (c_X0_checkNotNull l (hp_neg1 (by omega))) (va_cwS 1 hts gw_X0_56 rfl rfl rfl ⟨by decide, by decide, by decide +kernel⟩ ⟨Nat.le_of_ble_eq_true rfl, Nat.le_of_ble_eq_true rfl⟩) preEq rfl rfl hl.1 rfl (lv_room (Nat.le_of_ble_eq_true rfl)) dX0_numberCell_12 ⟨by decide, by decide⟩) ?_
  refine lv_aload_n hx hb dX0_numberCell_15 rfl (lv_at hl 1 rfl) ?_
  refine lv_iload_n hx hb dX0_numberCell_16 rfl (lv_at hl 0 rfl) ?_
  refine W.callR (W.runV (As := [.int (nI (hp_pl M (hp_r M j)))]) (rest := []) ⟨hx, hb, hml, hown, hts⟩ (c_X0_kindAt l dC dI h0 a1 a2 a3 a4 c1 c2 c3 c4 ce rg tk ob co re rc np _ (by omega)) (cwV 1 hts gw_X0_59 rfl rfl rfl ⟨rfl, by decide, by decide, by decide +kernel⟩ ⟨Nat.le_of_ble_eq_true rfl, Nat.le_of_ble_eq_true rfl⟩) ⟨hw_blind, va_recv (q0 := 0) (ci := 0) (q := (RX0, TX0, 8)) hK hP rfl rfl, hw_pay hP hK hD⟩ rfl rfl hl.1 rfl (lv_room (Nat.le_of_ble_eq_true rfl)) dX0_numberCell_17 ⟨by decide, by decide⟩) ?_
  refine W.eq (g2 := F0 m 20 ls [.int ((ce (hp_pl M (hp_r M j))).toInt32 &&& 3)]) rfl ?_
  refine hw_topi (y := nI (hp_k M (hp_r M j))) (hp_rkind hW hoL hcell.1) ?_
  refine lv_iconst (v := 2) hx hb dX0_numberCell_20 (by decide) ?_
  refine lv_icmp_ne hx hb dX0_numberCell_21 (tgt := 28) (by decide) (fun hc => ?_) (fun hc => ?_)
  · exact absurd (by rw [hk1]; decide) hc
  · skip
    refine lv_iconst (v := 1) hx hb dX0_numberCell_24 (by decide) ?_
    refine lv_goto hx hb dX0_numberCell_25 (tgt := 29) (by decide) ?_
    refine hw_callN (W.runS (As := [.int 1]) (rest := []) ⟨hx, hb, hml, hown, hts⟩ (c_X0_checkKind l ) (va_cwS 1 hts gw_X0_63 rfl rfl rfl ⟨by decide, by decide, by decide +kernel⟩ ⟨Nat.le_of_ble_eq_true rfl, Nat.le_of_ble_eq_true rfl⟩) preEq rfl rfl hl.1 rfl (lv_room (Nat.le_of_ble_eq_true rfl)) dX0_numberCell_29 ⟨by decide, by decide⟩) ?_
    refine lv_iload_n hx hb dX0_numberCell_32 rfl (lv_at hl 3 rfl) ?_
    refine lv_aload_n hx hb dX0_numberCell_33 rfl (lv_at hl 1 rfl) ?_
    refine lv_iload_n hx hb dX0_numberCell_34 rfl (lv_at hl 0 rfl) ?_
    refine W.callR (W.runV (As := [.int (nI (hp_pl M (hp_r M j)))]) (rest := [.int (nI q)]) ⟨hx, hb, hml, hown, hts⟩ (c_X0_lengthAt l dC dI h0 a1 a2 a3 a4 c1 c2 c3 c4 ce rg tk ob co re rc np _ (by omega)) (cwV 1 hts gw_X0_67 rfl rfl rfl ⟨rfl, by decide, by decide, by decide +kernel⟩ ⟨Nat.le_of_ble_eq_true rfl, Nat.le_of_ble_eq_true rfl⟩) ⟨hw_blind, va_recv (q0 := 0) (ci := 0) (q := (RX0, TX0, 8)) hK hP rfl rfl, hw_pay hP hK hD⟩ rfl rfl hl.1 rfl (lv_room (Nat.le_of_ble_eq_true rfl)) dX0_numberCell_35 ⟨by decide, by decide⟩) ?_
    refine W.eq (g2 := F0 m 38 ls [.int ((ce (hp_pl M (hp_r M j))).toInt32 >>> ((2 : Int32) &&& 31)), .int (nI q)]) rfl ?_
    refine hw_topi (y := nI (hp_z M (hp_r M j))) (hp_rlen hW hoL hcell.1) ?_
    refine hw_callN (W.runS (As := [.int (nI q), .int (nI (hp_z M (hp_r M j)))]) (rest := []) ⟨hx, hb, hml, hown, hts⟩ (c_X0_checkBelow l (hp_ok2 hq (by omega))) (va_cwS 2 hts gw_X0_46 rfl rfl rfl ⟨by decide, by decide, by decide +kernel⟩ ⟨Nat.le_of_ble_eq_true rfl, Nat.le_of_ble_eq_true rfl⟩) preEq rfl rfl hl.1 rfl (lv_room (Nat.le_of_ble_eq_true rfl)) dX0_numberCell_38 ⟨by decide, by decide⟩) ?_
    refine lv_iload_n hx hb dX0_numberCell_41 rfl (lv_at hl 0 rfl) ?_
    refine lv_iconst (v := 1) hx hb dX0_numberCell_42 (by decide) ?_
    refine lv_iadd hx hb dX0_numberCell_43 ?_
    refine lv_iload_n hx hb dX0_numberCell_44 rfl (lv_at hl 3 rfl) ?_
    refine lv_iadd hx hb dX0_numberCell_45 ?_
    refine hw_topi (y := nI (hp_pl M (hp_r M j) + (1 + q))) (by rw [nI_1, nI_add]; congr 1; omega) ?_
    exact W.iret (v := (nI (hp_pl M (hp_r M j) + (1 + q)))) hx hb hr (fun t ht hW => ⟨rfl, ht⟩) (fun q h => nomatch h) dX0_numberCell_46

set_option maxHeartbeats 4000000 in
set_option maxRecDepth 100000 in
theorem c_X0_put (l : Launch) (dC : Nat → ClassId) (dI : Nat → Nat → Nat) (h0 a1 a2 a3 a4 : Nat) (c1 c2 c3 c4 : ClassId) (ce : Nat → Int64) (rg : Nat → Int32) (tk ob co : Int32) (re : Nat → Int32) (rc : Int32) (np : Nat → Int32) (sz : Nat) (M : hp_S) (hW : hp_W M) (hC : hp_C M ce rg tk ob co) (j q : Nat) (hj : j < 16) (h0n : hp_r M j ≠ 0) (hk1 : hp_k M (hp_r M j) = 2) (hq : q < hp_z M (hp_r M j)) (v : Int64) : Met l yX0_put wsX0_put ({ frames := 3, cells := 0, slots := 0, locals := 64 }) (va_Pc [.ref h0, .int (nI j), .int (nI q), .long v] (hw_pre (dC, dI) vwCl [(c1, .long), (c2, .int), (c3, .int), (c4, .int)] [(h0, .inr (0, [.ref a1, .ref a2, .int tk, .int ob, .int co, .ref a3, .int rc, .ref a4])), (a1, .inl (c1, 300, .inr (.inl ce))), (a2, .inl (c2, 16, .inl rg)), (a3, .inl (c3, 300, .inl re)), (a4, .inl (c4, 300, .inl np))] sz)) (va_Qv (fun u : Nat → Int64 => hp_C (hp_sn M (hp_r M j) q v) u rg tk ob co) (fun u t => hw_B (dC, dI) vwCl [(c1, .long), (c2, .int), (c3, .int), (c4, .int)] (va_A [(h0, .inr (0, [.ref a1, .ref a2, .int tk, .int ob, .int co, .ref a3, .int rc, .ref a4])), (a1, .inl (c1, 300, .inr (.inl ce))), (a2, .inl (c2, 16, .inl rg)), (a3, .inl (c3, 300, .inl re)), (a4, .inl (c4, 300, .inl np))] sz) ((fun u : Nat → Int64 => [(h0, .inr (0, [.ref a1, .ref a2, .int tk, .int ob, .int co, .ref a3, .int rc, .ref a4])), (a1, .inl (c1, 300, .inr (.inl u))), (a2, .inl (c2, 16, .inl rg)), (a3, .inl (c3, 300, .inl re)), (a4, .inl (c4, 300, .inl np))]) u) t) (va_A [(h0, .inr (0, [.ref a1, .ref a2, .int tk, .int ob, .int co, .ref a3, .int rc, .ref a4])), (a1, .inl (c1, 300, .inr (.inl ce))), (a2, .inl (c2, 16, .inl rg)), (a3, .inl (c3, 300, .inl re)), (a4, .inl (c4, 300, .inl np))] sz)) 0 0 (va_A [(h0, .inr (0, [.ref a1, .ref a2, .int tk, .int ob, .int co, .ref a3, .int rc, .ref a4])), (a1, .inl (c1, 300, .inr (.inl ce))), (a2, .inl (c2, 16, .inl rg)), (a3, .inl (c3, 300, .inl re)), (a4, .inl (c4, 300, .inl np))] sz) := by
  refine Met.ofW (cc := cX0_put) (maxL := 5) (ret := none) (by decide) rfl ?_
  intro p e s m args below meth c s₁ B hml hv
  obtain ⟨hargs, hsz, hP, hK, hD0⟩ := hv
  have hx := B.exec
  have hb := B.bytes
  have hr := B.returns
  have hts : ∀ w ∈ wb, w.before _ s = true := fun w h => atoms_spec (ws := wsX0_put) B.pre w (List.mem_cons_of_mem _ h)
  have hown : s.vm.findClass RX0 = some m.cls := findClass_of_methodNamed B.named
  have hlocks := B.notSynchronized
  subst hsz
  have hD := hD0.self (sz := s.heap.size)
  generalize hAe : va_A [(h0, .inr (0, [.ref a1, .ref a2, .int tk, .int ob, .int co, .ref a3, .int rc, .ref a4])), (a1, .inl (c1, 300, .inr (.inl ce))), (a2, .inl (c2, 16, .inl rg)), (a3, .inl (c3, 300, .inl re)), (a4, .inl (c4, 300, .inl np))] s.heap.size = A at hD ⊢
  have hA : ∀ q : Nat, s.heap.size ≤ q → A q := fun q h => by rw [← hAe]; exact Or.inr h
  have hS : va_S A s.heap s.heap [] := va_S.rf
  generalize hQ9 : MQ below (va_Qv (fun u : Nat → Int64 => hp_C (hp_sn M (hp_r M j) q v) u rg tk ob co) (fun u t => hw_B (dC, dI) vwCl [(c1, .long), (c2, .int), (c3, .int), (c4, .int)] A ((fun u : Nat → Int64 => [(h0, .inr (0, [.ref a1, .ref a2, .int tk, .int ob, .int co, .ref a3, .int rc, .ref a4])), (a1, .inl (c1, 300, .inr (.inl u))), (a2, .inl (c2, 16, .inl rg)), (a3, .inl (c3, 300, .inl re)), (a4, .inl (c4, 300, .inl np))]) u) t) A) args s 0 0 A = Q9
  have hl := lv_entry ([.ref h0, .int (nI j), .int (nI q), .long v]) (n := 5) (Nat.le_of_ble_eq_true rfl)
  rw [show entryFrame m args 5 = _ from (congrArg (fun z => entryFrame m z 5) hargs).trans (lg_entry_eq m [.ref h0, .int (nI j), .int (nI q), .long v] 5)]
  generalize (lg_sl ([.ref h0, .int (nI j), .int (nI q), .long v]) ++ List.replicate (5 - (lg_sl ([.ref h0, .int (nI j), .int (nI q), .long v])).length) Slot.unset).toArray = ls at hl ⊢
  have hl : lv_has ls 5 [(0, .ref h0), (1, .int (nI j)), (2, .int (nI q)), (3, .long v)] := hl
  obtain ⟨H, hH⟩ : ∃ H, H = s.heap := ⟨_, rfl⟩
  rw [← hH] at hP
  have hS : va_S A s.heap H [] := by rw [hH]; exact hS
  rw [← hH]
  generalize ([] : List Loc) = locs at hS ⊢
  have hoL := (hW.2.2.2.1 j hj).resolve_left h0n
  have hlt := hp_pl_lt hW hoL
  refine lv_aload_n hx hb dX0_put_0 rfl (lv_at hl 0 rfl) ?_
  refine va_get (D := (dC, dI)) (ci := 0) (v := .ref a1) (C := RX0) (T := TX0) (N := 8) hx hb hts inX0 hown hK hP 0 rfl rfl 0 (by decide) (hts _ bw_fl_X0_9) (fun _ h9 => h9) rfl dX0_put_1 ?_
  refine lv_aload_n hx hb dX0_put_4 rfl (lv_at hl 0 rfl) ?_
  refine lv_iload_n hx hb dX0_put_5 rfl (lv_at hl 1 rfl) ?_
  refine lv_iload_n hx hb dX0_put_6 rfl (lv_at hl 2 rfl) ?_
  refine W.callR (W.runV (As := [.int (nI j), .int (nI q)]) (rest := [.ref a1]) ⟨hx, hb, hml, hown, hts⟩ (c_X0_numberCell l dC dI h0 a1 a2 a3 a4 c1 c2 c3 c4 ce rg tk ob co re rc np _ M hW hC j q hj h0n hk1 hq) (cwV 2 hts gw_X0_70 rfl rfl rfl ⟨rfl, by decide, by decide, by decide +kernel⟩ ⟨Nat.le_of_ble_eq_true rfl, Nat.le_of_ble_eq_true rfl⟩) ⟨hw_blind, va_recv (q0 := 0) (ci := 0) (q := (RX0, TX0, 8)) hK hP rfl rfl, hw_pay hP hK hD⟩ rfl rfl hl.1 rfl (lv_room (Nat.le_of_ble_eq_true rfl)) dX0_put_7 ⟨by decide, by decide⟩) ?_
  refine W.eq (g2 := F0 m 10 ls [.int (nI (hp_pl M (hp_r M j) + (1 + q))), .ref a1]) rfl ?_
  refine lv_lload_n hx hb dX0_put_10 rfl (lv_at hl 3 rfl) ?_
  refine hw_last (j := hp_pl M (hp_r M j) + (1 + q)) hx hb hK hP hD hS 1 0 rfl rfl (rfl) (by omega) (by decide) dX0_put_11 (fun H locs hP hD hS => ?_)
  have hP : va_P (dC, dI) vwCl [(h0, .inr (0, [.ref a1, .ref a2, .int tk, .int ob, .int co, .ref a3, .int rc, .ref a4])), (a1, .inl (c1, 300, .inr (.inl (vp_updL ce (hp_pl M (hp_r M j) + (1 + q)) v)))), (a2, .inl (c2, 16, .inl rg)), (a3, .inl (c3, 300, .inl re)), (a4, .inl (c4, 300, .inl np))] H := hP
  have hD : va_D A [(h0, .inr (0, [.ref a1, .ref a2, .int tk, .int ob, .int co, .ref a3, .int rc, .ref a4])), (a1, .inl (c1, 300, .inr (.inl (vp_updL ce (hp_pl M (hp_r M j) + (1 + q)) v)))), (a2, .inl (c2, 16, .inl rg)), (a3, .inl (c3, 300, .inl re)), (a4, .inl (c4, 300, .inl np))] := hD
  subst hQ9
  exact W.vret hx hb hr (fun t ht hWm => ⟨⟨(vp_updL ce (hp_pl M (hp_r M j) + (1 + q)) v), rfl, hp_sn_C hC hoL hk1 hq, by rw [ht]; exact hP, va_K.moved hWm.alike hK, hD⟩, hS.F ht⟩) hS.2.2 dX0_put_12

set_option maxHeartbeats 4000000 in
set_option maxRecDepth 100000 in
theorem c_X0_get (l : Launch) (dC : Nat → ClassId) (dI : Nat → Nat → Nat) (h0 a1 a2 a3 a4 : Nat) (c1 c2 c3 c4 : ClassId) (ce : Nat → Int64) (rg : Nat → Int32) (tk ob co : Int32) (re : Nat → Int32) (rc : Int32) (np : Nat → Int32) (sz : Nat) (M : hp_S) (hW : hp_W M) (hC : hp_C M ce rg tk ob co) (j q : Nat) (hj : j < 16) (h0n : hp_r M j ≠ 0) (hk1 : hp_k M (hp_r M j) = 2) (hq : q < hp_z M (hp_r M j)) : Met l yX0_get wsX0_get ({ frames := 3, cells := 0, slots := 0, locals := 64 }) (va_Pc [.ref h0, .int (nI j), .int (nI q)] (hw_pre (dC, dI) vwCl [(c1, .long), (c2, .int), (c3, .int), (c4, .int)] [(h0, .inr (0, [.ref a1, .ref a2, .int tk, .int ob, .int co, .ref a3, .int rc, .ref a4])), (a1, .inl (c1, 300, .inr (.inl ce))), (a2, .inl (c2, 16, .inl rg)), (a3, .inl (c3, 300, .inl re)), (a4, .inl (c4, 300, .inl np))] sz)) (k2_QcV (.long (hp_n M (hp_r M j) q))) 0 0 (fun _ => False) := by
  refine Met.ofW (cc := cX0_get) (maxL := 3) (ret := some .long) (by decide) rfl ?_
  intro p e s m args below meth c s₁ B hml hv
  obtain ⟨rfl, hsz, hP, hK, hD0⟩ := hv
  have hx := B.exec
  have hb := B.bytes
  have hr := B.returns
  have hts : ∀ w ∈ wb, w.before _ s = true := fun w h => atoms_spec (ws := wsX0_get) B.pre w (List.mem_cons_of_mem _ h)
  have hown : s.vm.findClass RX0 = some m.cls := findClass_of_methodNamed B.named
  have hlocks := B.notSynchronized
  subst hsz
  have hD := hD0
  have hl := lv_entry ([.ref h0, .int (nI j), .int (nI q)]) (n := 3) (Nat.le_of_ble_eq_true rfl)
  rw [lg_entry_eq]
  generalize (lg_sl ([.ref h0, .int (nI j), .int (nI q)]) ++ List.replicate (3 - (lg_sl ([.ref h0, .int (nI j), .int (nI q)])).length) Slot.unset).toArray = ls at hl ⊢
  have hl : lv_has ls 3 [(0, .ref h0), (1, .int (nI j)), (2, .int (nI q))] := hl
  have hoL := (hW.2.2.2.1 j hj).resolve_left h0n
  have hlt := hp_pl_lt hW hoL
  refine lv_aload_n hx hb dX0_get_0 rfl (lv_at hl 0 rfl) ?_
  refine va_get (D := (dC, dI)) (ci := 0) (v := .ref a1) (C := RX0) (T := TX0) (N := 8) hx hb hts inX0 hown hK hP 0 rfl rfl 0 (by decide) (hts _ bw_fl_X0_9) (fun _ h9 => h9) rfl dX0_get_1 ?_
  refine lv_aload_n hx hb dX0_get_4 rfl (lv_at hl 0 rfl) ?_
  refine lv_iload_n hx hb dX0_get_5 rfl (lv_at hl 1 rfl) ?_
  refine lv_iload_n hx hb dX0_get_6 rfl (lv_at hl 2 rfl) ?_
  refine W.callR (W.runV (As := [.int (nI j), .int (nI q)]) (rest := [.ref a1]) ⟨hx, hb, hml, hown, hts⟩ (c_X0_numberCell l dC dI h0 a1 a2 a3 a4 c1 c2 c3 c4 ce rg tk ob co re rc np _ M hW hC j q hj h0n hk1 hq) (cwV 2 hts gw_X0_70 rfl rfl rfl ⟨rfl, by decide, by decide, by decide +kernel⟩ ⟨Nat.le_of_ble_eq_true rfl, Nat.le_of_ble_eq_true rfl⟩) ⟨hw_blind, va_recv (q0 := 0) (ci := 0) (q := (RX0, TX0, 8)) hK hP rfl rfl, hw_pay hP hK hD⟩ rfl rfl hl.1 rfl (lv_room (Nat.le_of_ble_eq_true rfl)) dX0_get_7 ⟨by decide, by decide⟩) ?_
  refine W.eq (g2 := F0 m 10 ls [.int (nI (hp_pl M (hp_r M j) + (1 + q))), .ref a1]) rfl ?_
  refine hw_lald (j := hp_pl M (hp_r M j) + (1 + q)) hx hb hK hP 1 0 rfl rfl (rfl) (by omega) (by decide) dX0_get_10 ?_
  exact W.lret (v := (ce (hp_pl M (hp_r M j) + (1 + q)))) hx hb hr (fun t ht hW => ⟨by rw [(hC.2.2.2.2 _ hoL).2 q hq]; unfold hp_v; rw [if_pos hk1], ht⟩) (fun q h => nomatch h) dX0_get_11

set_option maxHeartbeats 4000000 in
set_option maxRecDepth 100000 in
theorem x_X0_put (l : Launch) (dC : Nat → ClassId) (dI : Nat → Nat → Nat) (h0 a1 a2 a3 a4 : Nat) (c1 c2 c3 c4 : ClassId) (ce : Nat → Int64) (rg : Nat → Int32) (tk ob co : Int32) (re : Nat → Int32) (rc : Int32) (np : Nat → Int32) (sz : Nat) (hl9 : l.stackTraces = false) (M : hp_S) (hW : hp_W M) (hC : hp_C M ce rg tk ob co) (r i : Int32) (k : Nat) (hk : hp_lk M (hp_bad r 16) (hp_at M r) i (hp_k M (hp_at M r) = 2) k) (hk0 : k ≠ 0) (v : Int64) : vx_Met l yX0_put wsX0_put ({ frames := 9, cells := 1, slots := 6, locals := 154 }) (va_Pc [.ref h0, .int r, .int i, .long v] (hx_pre (dC, dI) vwCl [(c1, .long), (c2, .int), (c3, .int), (c4, .int)] [(h0, .inr (0, [.ref a1, .ref a2, .int tk, .int ob, .int co, .ref a3, .int rc, .ref a4])), (a1, .inl (c1, 300, .inr (.inl ce))), (a2, .inl (c2, 16, .inl rg)), (a3, .inl (c3, 300, .inl re)), (a4, .inl (c4, 300, .inl np))] sz)) (fun _ _ _ _ => False) (vx_X (fun _ : Unit => True) (fun E u t => (fun (E : String) (_ : Unit) => hp_E2 E k) E u ∧ hw_B (dC, dI) vwCl [(c1, .long), (c2, .int), (c3, .int), (c4, .int)] (va_A [(h0, .inr (0, [.ref a1, .ref a2, .int tk, .int ob, .int co, .ref a3, .int rc, .ref a4])), (a1, .inl (c1, 300, .inr (.inl ce))), (a2, .inl (c2, 16, .inl rg)), (a3, .inl (c3, 300, .inl re)), (a4, .inl (c4, 300, .inl np))] sz) ((fun _ : Unit => [(h0, .inr (0, [.ref a1, .ref a2, .int tk, .int ob, .int co, .ref a3, .int rc, .ref a4])), (a1, .inl (c1, 300, .inr (.inl ce))), (a2, .inl (c2, 16, .inl rg)), (a3, .inl (c3, 300, .inl re)), (a4, .inl (c4, 300, .inl np))]) u) t) (va_A [(h0, .inr (0, [.ref a1, .ref a2, .int tk, .int ob, .int co, .ref a3, .int rc, .ref a4])), (a1, .inl (c1, 300, .inr (.inl ce))), (a2, .inl (c2, 16, .inl rg)), (a3, .inl (c3, 300, .inl re)), (a4, .inl (c4, 300, .inl np))] sz)) 1 6 (va_A [(h0, .inr (0, [.ref a1, .ref a2, .int tk, .int ob, .int co, .ref a3, .int rc, .ref a4])), (a1, .inl (c1, 300, .inr (.inl ce))), (a2, .inl (c2, 16, .inl rg)), (a3, .inl (c3, 300, .inl re)), (a4, .inl (c4, 300, .inl np))] sz) := by
  refine vx_ofW (cc := cX0_put) (maxL := 5) (ret := none) (by decide) rfl ?_
  intro p e s m args below meth c s₁ B hml hEx hv
  obtain ⟨hargs, hsz, hP, hK, hD0, hZ⟩ := hv
  have hx := B.exec
  have hb := B.bytes
  have hr := B.returns
  have hts : ∀ w ∈ wb, w.before _ s = true := fun w h => atoms_spec (ws := wsX0_put) B.pre w (List.mem_cons_of_mem _ h)
  have hown : s.vm.findClass RX0 = some m.cls := findClass_of_methodNamed B.named
  have hlocks := B.notSynchronized
  subst hsz
  have hD := hD0.self (sz := s.heap.size)
  generalize hAe : va_A [(h0, .inr (0, [.ref a1, .ref a2, .int tk, .int ob, .int co, .ref a3, .int rc, .ref a4])), (a1, .inl (c1, 300, .inr (.inl ce))), (a2, .inl (c2, 16, .inl rg)), (a3, .inl (c3, 300, .inl re)), (a4, .inl (c4, 300, .inl np))] s.heap.size = A at hD hZ ⊢
  have hA : ∀ q : Nat, s.heap.size ≤ q → A q := fun q h => by rw [← hAe]; exact Or.inr h
  have hS : va_S A s.heap s.heap [] := va_S.rf
  generalize hQ9 : vx_MQ below (fun _ _ _ _ => False) (vx_X (fun _ : Unit => True) (fun E u t => (fun (E : String) (_ : Unit) => hp_E2 E k) E u ∧ hw_B (dC, dI) vwCl [(c1, .long), (c2, .int), (c3, .int), (c4, .int)] A ((fun _ : Unit => [(h0, .inr (0, [.ref a1, .ref a2, .int tk, .int ob, .int co, .ref a3, .int rc, .ref a4])), (a1, .inl (c1, 300, .inr (.inl ce))), (a2, .inl (c2, 16, .inl rg)), (a3, .inl (c3, 300, .inl re)), (a4, .inl (c4, 300, .inl np))]) u) t) A) args s 1 6 A = Q9
  have hl := lv_entry ([.ref h0, .int r, .int i, .long v]) (n := 5) (Nat.le_of_ble_eq_true rfl)
  rw [show entryFrame m args 5 = _ from (congrArg (fun z => entryFrame m z 5) hargs).trans (lg_entry_eq m [.ref h0, .int r, .int i, .long v] 5)]
  generalize (lg_sl ([.ref h0, .int r, .int i, .long v]) ++ List.replicate (5 - (lg_sl ([.ref h0, .int r, .int i, .long v])).length) Slot.unset).toArray = ls at hl ⊢
  have hl : lv_has ls 5 [(0, .ref h0), (1, .int r), (2, .int i), (3, .long v)] := hl
  obtain ⟨H, hH⟩ : ∃ H, H = s.heap := ⟨_, rfl⟩
  rw [← hH] at hP
  have hS : va_S A s.heap H [] := by rw [hH]; exact hS
  rw [← hH]
  generalize ([] : List Loc) = locs at hS ⊢
  refine lv_aload_n hx hb dX0_put_0 rfl (lv_at hl 0 rfl) ?_
  refine va_get (D := (dC, dI)) (ci := 0) (v := .ref a1) (C := RX0) (T := TX0) (N := 8) hx hb hts inX0 hown hK hP 0 rfl rfl 0 (by decide) (hts _ bw_fl_X0_9) (fun _ h9 => h9) rfl dX0_put_1 ?_
  refine lv_aload_n hx hb dX0_put_4 rfl (lv_at hl 0 rfl) ?_
  refine lv_iload_n hx hb dX0_put_5 rfl (lv_at hl 1 rfl) ?_
  refine lv_iload_n hx hb dX0_put_6 rfl (lv_at hl 2 rfl) ?_
  refine hx_throwsW (vx_runV (As := [.int r, .int i]) (rest := [.ref a1]) ⟨hx, hb, hml, hown, hts⟩ (x_X0_numberCell l dC dI h0 a1 a2 a3 a4 c1 c2 c3 c4 ce rg tk ob co re rc np _ hl9 M hW hC r i k hk hk0) (cwV 2 hts gw_X0_70 rfl rfl rfl ⟨rfl, by decide, by decide, by decide +kernel⟩ ⟨Nat.le_of_ble_eq_true rfl, Nat.le_of_ble_eq_true rfl⟩) ⟨hx_blind, va_recv (q0 := 0) (ci := 0) (q := (RX0, TX0, 8)) hK hP rfl rfl, hx_pay hP hK hD hS hA hZ⟩ rfl rfl hl.1 rfl (lv_room (Nat.le_of_ble_eq_true rfl)) dX0_put_7 ⟨by decide, by decide⟩) hD hS hA (fun E ce9 q9 u9 H locs hb9 hP hD hS h1 h2 h3 => ?_)
  subst hQ9
  exact vx_out (fun x hx => (hEx x hx).elim) hlocks h1 h2 h3 (fun t ht ha => ⟨(), trivial, ⟨hb9, by rw [ht]; exact hP, va_K.moved ha hK, hD⟩, hS.F ht⟩) hS.2.2 (Nat.le_of_ble_eq_true rfl) (Nat.le_of_ble_eq_true rfl)

set_option maxHeartbeats 4000000 in
set_option maxRecDepth 100000 in
theorem x_X0_get (l : Launch) (dC : Nat → ClassId) (dI : Nat → Nat → Nat) (h0 a1 a2 a3 a4 : Nat) (c1 c2 c3 c4 : ClassId) (ce : Nat → Int64) (rg : Nat → Int32) (tk ob co : Int32) (re : Nat → Int32) (rc : Int32) (np : Nat → Int32) (sz : Nat) (hl9 : l.stackTraces = false) (M : hp_S) (hW : hp_W M) (hC : hp_C M ce rg tk ob co) (r i : Int32) (k : Nat) (hk : hp_lk M (hp_bad r 16) (hp_at M r) i (hp_k M (hp_at M r) = 2) k) (hk0 : k ≠ 0) : vx_Met l yX0_get wsX0_get ({ frames := 9, cells := 1, slots := 6, locals := 154 }) (va_Pc [.ref h0, .int r, .int i] (hx_pre (dC, dI) vwCl [(c1, .long), (c2, .int), (c3, .int), (c4, .int)] [(h0, .inr (0, [.ref a1, .ref a2, .int tk, .int ob, .int co, .ref a3, .int rc, .ref a4])), (a1, .inl (c1, 300, .inr (.inl ce))), (a2, .inl (c2, 16, .inl rg)), (a3, .inl (c3, 300, .inl re)), (a4, .inl (c4, 300, .inl np))] sz)) (fun _ _ _ _ => False) (vx_X (fun _ : Unit => True) (fun E u t => (fun (E : String) (_ : Unit) => hp_E2 E k) E u ∧ hw_B (dC, dI) vwCl [(c1, .long), (c2, .int), (c3, .int), (c4, .int)] (va_A [(h0, .inr (0, [.ref a1, .ref a2, .int tk, .int ob, .int co, .ref a3, .int rc, .ref a4])), (a1, .inl (c1, 300, .inr (.inl ce))), (a2, .inl (c2, 16, .inl rg)), (a3, .inl (c3, 300, .inl re)), (a4, .inl (c4, 300, .inl np))] sz) ((fun _ : Unit => [(h0, .inr (0, [.ref a1, .ref a2, .int tk, .int ob, .int co, .ref a3, .int rc, .ref a4])), (a1, .inl (c1, 300, .inr (.inl ce))), (a2, .inl (c2, 16, .inl rg)), (a3, .inl (c3, 300, .inl re)), (a4, .inl (c4, 300, .inl np))]) u) t) (va_A [(h0, .inr (0, [.ref a1, .ref a2, .int tk, .int ob, .int co, .ref a3, .int rc, .ref a4])), (a1, .inl (c1, 300, .inr (.inl ce))), (a2, .inl (c2, 16, .inl rg)), (a3, .inl (c3, 300, .inl re)), (a4, .inl (c4, 300, .inl np))] sz)) 1 6 (va_A [(h0, .inr (0, [.ref a1, .ref a2, .int tk, .int ob, .int co, .ref a3, .int rc, .ref a4])), (a1, .inl (c1, 300, .inr (.inl ce))), (a2, .inl (c2, 16, .inl rg)), (a3, .inl (c3, 300, .inl re)), (a4, .inl (c4, 300, .inl np))] sz) := by
  refine vx_ofW (cc := cX0_get) (maxL := 3) (ret := some .long) (by decide) rfl ?_
  intro p e s m args below meth c s₁ B hml hEx hv
  obtain ⟨hargs, hsz, hP, hK, hD0, hZ⟩ := hv
  have hx := B.exec
  have hb := B.bytes
  have hr := B.returns
  have hts : ∀ w ∈ wb, w.before _ s = true := fun w h => atoms_spec (ws := wsX0_get) B.pre w (List.mem_cons_of_mem _ h)
  have hown : s.vm.findClass RX0 = some m.cls := findClass_of_methodNamed B.named
  have hlocks := B.notSynchronized
  subst hsz
  have hD := hD0.self (sz := s.heap.size)
  generalize hAe : va_A [(h0, .inr (0, [.ref a1, .ref a2, .int tk, .int ob, .int co, .ref a3, .int rc, .ref a4])), (a1, .inl (c1, 300, .inr (.inl ce))), (a2, .inl (c2, 16, .inl rg)), (a3, .inl (c3, 300, .inl re)), (a4, .inl (c4, 300, .inl np))] s.heap.size = A at hD hZ ⊢
  have hA : ∀ q : Nat, s.heap.size ≤ q → A q := fun q h => by rw [← hAe]; exact Or.inr h
  have hS : va_S A s.heap s.heap [] := va_S.rf
  generalize hQ9 : vx_MQ below (fun _ _ _ _ => False) (vx_X (fun _ : Unit => True) (fun E u t => (fun (E : String) (_ : Unit) => hp_E2 E k) E u ∧ hw_B (dC, dI) vwCl [(c1, .long), (c2, .int), (c3, .int), (c4, .int)] A ((fun _ : Unit => [(h0, .inr (0, [.ref a1, .ref a2, .int tk, .int ob, .int co, .ref a3, .int rc, .ref a4])), (a1, .inl (c1, 300, .inr (.inl ce))), (a2, .inl (c2, 16, .inl rg)), (a3, .inl (c3, 300, .inl re)), (a4, .inl (c4, 300, .inl np))]) u) t) A) args s 1 6 A = Q9
  have hl := lv_entry ([.ref h0, .int r, .int i]) (n := 3) (Nat.le_of_ble_eq_true rfl)
  rw [show entryFrame m args 3 = _ from (congrArg (fun z => entryFrame m z 3) hargs).trans (lg_entry_eq m [.ref h0, .int r, .int i] 3)]
  generalize (lg_sl ([.ref h0, .int r, .int i]) ++ List.replicate (3 - (lg_sl ([.ref h0, .int r, .int i])).length) Slot.unset).toArray = ls at hl ⊢
  have hl : lv_has ls 3 [(0, .ref h0), (1, .int r), (2, .int i)] := hl
  obtain ⟨H, hH⟩ : ∃ H, H = s.heap := ⟨_, rfl⟩
  rw [← hH] at hP
  have hS : va_S A s.heap H [] := by rw [hH]; exact hS
  rw [← hH]
  generalize ([] : List Loc) = locs at hS ⊢
  refine lv_aload_n hx hb dX0_get_0 rfl (lv_at hl 0 rfl) ?_
  refine va_get (D := (dC, dI)) (ci := 0) (v := .ref a1) (C := RX0) (T := TX0) (N := 8) hx hb hts inX0 hown hK hP 0 rfl rfl 0 (by decide) (hts _ bw_fl_X0_9) (fun _ h9 => h9) rfl dX0_get_1 ?_
  refine lv_aload_n hx hb dX0_get_4 rfl (lv_at hl 0 rfl) ?_
  refine lv_iload_n hx hb dX0_get_5 rfl (lv_at hl 1 rfl) ?_
  refine lv_iload_n hx hb dX0_get_6 rfl (lv_at hl 2 rfl) ?_
  refine hx_throwsW (vx_runV (As := [.int r, .int i]) (rest := [.ref a1]) ⟨hx, hb, hml, hown, hts⟩ (x_X0_numberCell l dC dI h0 a1 a2 a3 a4 c1 c2 c3 c4 ce rg tk ob co re rc np _ hl9 M hW hC r i k hk hk0) (cwV 2 hts gw_X0_70 rfl rfl rfl ⟨rfl, by decide, by decide, by decide +kernel⟩ ⟨Nat.le_of_ble_eq_true rfl, Nat.le_of_ble_eq_true rfl⟩) ⟨hx_blind, va_recv (q0 := 0) (ci := 0) (q := (RX0, TX0, 8)) hK hP rfl rfl, hx_pay hP hK hD hS hA hZ⟩ rfl rfl hl.1 rfl (lv_room (Nat.le_of_ble_eq_true rfl)) dX0_get_7 ⟨by decide, by decide⟩) hD hS hA (fun E ce9 q9 u9 H locs hb9 hP hD hS h1 h2 h3 => ?_)
  subst hQ9
  exact vx_out (fun x hx => (hEx x hx).elim) hlocks h1 h2 h3 (fun t ht ha => ⟨(), trivial, ⟨hb9, by rw [ht]; exact hP, va_K.moved ha hK, hD⟩, hS.F ht⟩) hS.2.2 (Nat.le_of_ble_eq_true rfl) (Nat.le_of_ble_eq_true rfl)
end
section
def hp_st (M : hp_S) (o w : Nat) : Int32 := if w = 0 then (if o = 0 then 0 else nI (hp_k M o)) else if o = 0 then -1 else if w = 1 then nI (hp_pl M o) else nI (hp_z M o)
def hp_ct (M : hp_S) (x : Int32) : Int32 := if x = 0 then nI (hp_tk M) else if x = 1 then nI (hp_L M).length else if x = 2 then hp_c M else -1
theorem hp_sw {x : Int32} (h0 : ¬ x = 0) (h1 : ¬ x = 1) (h2 : ¬ x = 2) : x.toInt < 0 ∨ 2 < x.toInt := by
  by_cases ha : x.toInt < 0
  · exact Or.inl ha
  · refine Or.inr (Classical.byContradiction fun hb => ?_)
    have h : x.toInt = 0 ∨ x.toInt = 1 ∨ x.toInt = 2 := by omega
    rcases h with h | h | h
    · exact h0 (Int32.toInt_inj.mp h)
    · exact h1 (Int32.toInt_inj.mp h)
    · exact h2 (Int32.toInt_inj.mp h)
theorem hp_uu (f : Nat → Int64) (p : Nat) (x y : Int64) : vp_updL (vp_updL f p x) p y = vp_updL f p y := by
  funext j
  by_cases e : j = p
  · subst e; rw [pk_uLs, pk_uLs]
  · rw [pk_uLn e, pk_uLn e, pk_uLn e]
/-- the first content of a new object, as the program writes it -/
def hp_f0 (k : Nat) : Int64 := if k = 2 then 0 else -1
/-- behind make: the new object's cells are written up to i -/
def hp_mw (M : hp_S) (n k : Nat) (ce1 ce : Nat → Int64) (i : Nat) : Prop := (∀ j, j < hp_tk M → ce j = ce1 j) ∧ ce (hp_tk M) = lN (4 * n + k) ∧ ∀ q, q < i → ce (hp_tk M + (1 + q)) = hp_f0 k
theorem hp_mw_0 (M : hp_S) (n k : Nat) (ce1 : Nat → Int64) : hp_mw M n k ce1 (vp_updL ce1 (hp_tk M) (lN (4 * n + k))) 0 :=
  ⟨fun j hj => pk_uLn (by omega), pk_uLs, fun q hq => absurd hq (Nat.not_lt_zero _)⟩
theorem hp_mw_s {M : hp_S} {n k : Nat} {ce1 ce : Nat → Int64} {i : Nat} (h : hp_mw M n k ce1 ce i) : hp_mw M n k ce1 (vp_updL ce (hp_tk M + (1 + i)) (hp_f0 k)) (i + 1) := by
  obtain ⟨h1, h2, h3⟩ := h
  refine ⟨fun j hj => by rw [pk_uLn (by omega)]; exact h1 j hj, by rw [pk_uLn (by omega)]; exact h2, fun q hq => ?_⟩
  by_cases e : q = i
  · subst e; exact pk_uLs
  · rw [pk_uLn (by omega)]; exact h3 q (by omega)
theorem hp_mk_done {M : hp_S} (hW : hp_W M) {n k j : Nat} {ce1 ce : Nat → Int64} {rg : Nat → Int32} {tk1 ob1 co : Int32} (hC : hp_C M ce1 rg tk1 ob1 co) (h : hp_mw M n k ce1 ce n) (o : Nat) (ho : o ∉ hp_L M) (h1 : 1 ≤ o) :
    hp_C (hp_sr (hp_mk M o k n) j o) ce (upd rg j (nI (hp_tk M))) (nI (hp_tk M + (1 + n))) (nI ((hp_L M).length + 1)) co := by
  have h9 := hp_sr_C (hp_mk_C (ce' := ce) hW hC (o := o) (k := k) (n := n) ho h.1 h.2.1 (fun i hi => h.2.2 i hi)) j o
  rw [hp_mk_eo ho h1] at h9
  exact h9
theorem hp_wk_done {M : hp_S} (hW : hp_W M) {j : Nat} {ce1 : Nat → Int64} {rg : Nat → Int32} {tk1 ob1 co : Int32} (hC : hp_C M ce1 rg tk1 ob1 co) (x : Nat) (hx : x = 0 ∨ x ∈ hp_L M) (o : Nat) (ho : o ∉ hp_L M) (h1 : 1 ≤ o) :
    hp_C (hp_sr (hp_sl (hp_mk M o 3 1) o 0 x) j o) (vp_updL (vp_updL ce1 (hp_tk M) (lN (4 * 1 + 3))) (hp_tk M + 1) (hp_e M x).toInt64) (upd rg j (nI (hp_tk M))) (nI (hp_tk M + (1 + 1))) (nI ((hp_L M).length + 1)) co := by
  have hm := hp_mw_s (hp_mw_0 M 1 3 ce1)
  have hin : o ∈ hp_L (hp_mk M o 3 1) := List.mem_append.mpr (Or.inr (by simp))
  have ek : hp_k (hp_mk M o 3 1) o = 3 := va_up_self _ _ _
  have ez : hp_z (hp_mk M o 3 1) o = 1 := va_up_self _ _ _
  have h8 := hp_sl_C (x := x) (hp_mk_C (ce' := _) hW hC (o := o) (k := 3) (n := 1) ho hm.1 hm.2.1 (fun i hi => hm.2.2 i hi)) hin (by rw [ek]; decide) (i := 0) (by rw [ez]; decide)
  rw [hp_mk_plo ho, hp_uu, hp_mk_e ho hx] at h8
  have h9 := hp_sr_C h8 j o
  have e : hp_e (hp_sl (hp_mk M o 3 1) o 0 x) o = nI (hp_tk M) := hp_mk_eo (k := 3) ho h1
  rw [e] at h9
  exact h9
theorem hp_rm_r (M : hp_S) (n : Nat) : hp_r (hp_rm M n) = hp_r M := by
  unfold hp_rm; split <;> rfl
/-- a new heap -/
def hp_0 : hp_S := ([], fun _ => 0, fun _ => 0, fun _ _ => 0, fun _ _ => 0, fun _ => 0, 0)
theorem hp_0_W : hp_W hp_0 := ⟨List.nodup_nil, fun o ho => absurd ho List.not_mem_nil, fun o _ => rfl, fun r _ => Or.inl rfl, fun o ho => absurd ho List.not_mem_nil, Nat.zero_le _⟩
theorem hp_0_C {ce : Nat → Int64} {rg : Nat → Int32} (h : ∀ r, r < 16 → rg r = -1) : hp_C hp_0 ce rg 0 0 0 := ⟨nI_0.symm, nI_0.symm, rfl, fun r hr => by rw [h r hr]; rfl, fun o ho => absurd ho List.not_mem_nil⟩
end
section
set_option maxHeartbeats 4000000 in
set_option maxRecDepth 100000 in
theorem c_X0_state (l : Launch) (dC : Nat → ClassId) (dI : Nat → Nat → Nat) (h0 a1 a2 a3 a4 : Nat) (c1 c2 c3 c4 : ClassId) (ce : Nat → Int64) (rg : Nat → Int32) (tk ob co : Int32) (re : Nat → Int32) (rc : Int32) (np : Nat → Int32) (sz : Nat) (M : hp_S) (hW : hp_W M) (hC : hp_C M ce rg tk ob co) (j w : Nat) (hj : j < 16) (hw : w < 3) : Met l yX0_state wsX0_state ({ frames := 2, cells := 0, slots := 0, locals := 41 }) (va_Pc [.ref h0, .int (nI j), .int (nI w)] (hw_pre (dC, dI) vwCl [(c1, .long), (c2, .int), (c3, .int), (c4, .int)] [(h0, .inr (0, [.ref a1, .ref a2, .int tk, .int ob, .int co, .ref a3, .int rc, .ref a4])), (a1, .inl (c1, 300, .inr (.inl ce))), (a2, .inl (c2, 16, .inl rg)), (a3, .inl (c3, 300, .inl re)), (a4, .inl (c4, 300, .inl np))] sz)) (QcRead (hp_st M (hp_r M j) w)) 0 0 (fun _ => False) := by
  refine Met.ofW (cc := cX0_state) (maxL := 4) (ret := some .int) (by decide) rfl ?_
  intro p e s m args below meth c s₁ B hml hv
  obtain ⟨rfl, hsz, hP, hK, hD0⟩ := hv
  have hx := B.exec
  have hb := B.bytes
  have hr := B.returns
  have hts : ∀ w ∈ wb, w.before _ s = true := fun w h => atoms_spec (ws := wsX0_state) B.pre w (List.mem_cons_of_mem _ h)
  have hown : s.vm.findClass RX0 = some m.cls := findClass_of_methodNamed B.named
  have hlocks := B.notSynchronized
  subst hsz
  have hD := hD0
  have hl := lv_entry ([.ref h0, .int (nI j), .int (nI w)]) (n := 4) (Nat.le_of_ble_eq_true rfl)
  rw [lg_entry_eq]
  generalize (lg_sl ([.ref h0, .int (nI j), .int (nI w)]) ++ List.replicate (4 - (lg_sl ([.ref h0, .int (nI j), .int (nI w)])).length) Slot.unset).toArray = ls at hl ⊢
  have hl : lv_has ls 4 [(0, .ref h0), (1, .int (nI j)), (2, .int (nI w))] := hl
  refine lv_iload_n hx hb dX0_state_0 rfl (lv_at hl 1 rfl) ?_
  refine hw_callN (W.runS (As := [.int (nI j)]) (rest := []) ⟨hx, hb, hml, hown, hts⟩ (c_X0_checkRegister l (hp_ok2 hj (by decide))) (va_cwS 1 hts gw_X0_42 rfl rfl rfl ⟨by decide, by decide, by decide +kernel⟩ ⟨Nat.le_of_ble_eq_true rfl, Nat.le_of_ble_eq_true rfl⟩) preEq rfl rfl hl.1 rfl (lv_room (Nat.le_of_ble_eq_true rfl)) dX0_state_1 ⟨by decide, by decide⟩) ?_
  refine lv_iload_n hx hb dX0_state_4 rfl (lv_at hl 2 rfl) ?_
  refine lv_iconst (v := 3) hx hb dX0_state_5 (by decide) ?_
  refine hw_callN (W.runS (As := [.int (nI w), .int 3]) (rest := []) ⟨hx, hb, hml, hown, hts⟩ (c_X0_checkBelow l (hp_ok2 hw (by decide))) (va_cwS 2 hts gw_X0_46 rfl rfl rfl ⟨by decide, by decide, by decide +kernel⟩ ⟨Nat.le_of_ble_eq_true rfl, Nat.le_of_ble_eq_true rfl⟩) preEq rfl rfl hl.1 rfl (lv_room (Nat.le_of_ble_eq_true rfl)) dX0_state_6 ⟨by decide, by decide⟩) ?_
  refine lv_aload_n hx hb dX0_state_9 rfl (lv_at hl 0 rfl) ?_
  refine va_get (D := (dC, dI)) (ci := 0) (v := .ref a2) (C := RX0) (T := TX0) (N := 8) hx hb hts inX0 hown hK hP 0 rfl rfl 1 (by decide) (hts _ bw_fl_X0_13) (fun _ h9 => h9) rfl dX0_state_10 ?_
  refine lv_iload_n hx hb dX0_state_13 rfl (lv_at hl 1 rfl) ?_
  refine hw_iald (j := j) hx hb hK hP 2 1 rfl rfl (rfl) (hj) (by decide) dX0_state_14 ?_
  refine hw_topi (y := hp_e M (hp_r M j)) (hC.2.2.2.1 j hj) ?_
  refine lv_istore_n hx hb dX0_state_15 rfl hl (by decide) rfl (fun ls hl => ?_)
  have hl : lv_has ls 4 [(3, .int (hp_e M (hp_r M j))), (0, .ref h0), (1, .int (nI j)), (2, .int (nI w))] := hl
  refine lv_iload_n hx hb dX0_state_16 rfl (lv_at hl 3 rfl) ?_
  refine lv_if_ne hx hb dX0_state_17 (tgt := 35) (by decide) (fun hc => ?_) (fun hc => ?_)
  · have hw0 : ¬ w = 0 := fun h9 => hc (by rw [h9]; exact nI_0)
    refine lv_iload_n hx hb dX0_state_35 rfl (lv_at hl 0 rfl) ?_
    refine lv_iconst (v := (-1)) hx hb dX0_state_36 (by decide) ?_
    refine lv_icmp_ne hx hb dX0_state_37 (tgt := 42) (by decide) (fun hc => ?_) (fun hc => ?_)
    · have h00 : hp_r M j ≠ 0 := fun h9 => hc ((hp_null hW (hW.2.2.2.1 j hj)).mpr h9)
      have hoL := (hW.2.2.2.1 j hj).resolve_left h00
      have hcell := hC.2.2.2.2 _ hoL
      have hlt := hp_pl_lt hW hoL
      refine lv_iload_n hx hb dX0_state_42 rfl (lv_at hl 3 rfl) ?_
      refine lv_iconst (v := 1) hx hb dX0_state_43 (by decide) ?_
      refine lv_icmp_ne hx hb dX0_state_44 (tgt := 51) (by decide) (fun hc => ?_) (fun hc => ?_)
      · have hw1 : ¬ w = 1 := fun h9 => hc (by rw [h9]; decide)
        refine lv_aload_n hx hb dX0_state_51 rfl (lv_at hl 1 rfl) ?_
        refine lv_iload_n hx hb dX0_state_52 rfl (lv_at hl 0 rfl) ?_
        refine hw_topi (y := nI (hp_pl M (hp_r M j))) (hp_en h00) ?_
        refine W.callR (W.runV (As := [.int (nI (hp_pl M (hp_r M j)))]) (rest := []) ⟨hx, hb, hml, hown, hts⟩ (c_X0_lengthAt l dC dI h0 a1 a2 a3 a4 c1 c2 c3 c4 ce rg tk ob co re rc np _ (by omega)) (cwV 1 hts gw_X0_67 rfl rfl rfl ⟨rfl, by decide, by decide, by decide +kernel⟩ ⟨Nat.le_of_ble_eq_true rfl, Nat.le_of_ble_eq_true rfl⟩) ⟨hw_blind, va_recv (q0 := 0) (ci := 0) (q := (RX0, TX0, 8)) hK hP rfl rfl, hw_pay hP hK hD⟩ rfl rfl hl.1 rfl (lv_room (Nat.le_of_ble_eq_true rfl)) dX0_state_53 ⟨by decide, by decide⟩) ?_
        refine W.eq (g2 := F0 m 56 ls [.int ((ce (hp_pl M (hp_r M j))).toInt32 >>> ((2 : Int32) &&& 31))]) rfl ?_
        refine hw_topi (y := hp_st M (hp_r M j) w) (by unfold hp_st; rw [if_neg hw0, if_neg h00, if_neg hw1]; exact hp_rlen hW hoL hcell.1) ?_
        exact W.iret (v := (hp_st M (hp_r M j) w)) hx hb hr (fun t ht hW => ⟨rfl, ht⟩) (fun q h => nomatch h) dX0_state_56
      · have hw1 : w = 1 := (nI_eq (b := 1) (by omega) (by decide)).mp hc
        refine lv_iload_n hx hb dX0_state_47 rfl (lv_at hl 0 rfl) ?_
        refine lv_goto hx hb dX0_state_48 (tgt := 56) (by decide) ?_
        refine hw_topi (y := hp_st M (hp_r M j) w) (by unfold hp_st; rw [if_neg hw0, if_neg h00, if_pos hw1]; exact hp_en h00) ?_
        exact W.iret (v := (hp_st M (hp_r M j) w)) hx hb hr (fun t ht hW => ⟨rfl, ht⟩) (fun q h => nomatch h) dX0_state_56
    · have h00 : hp_r M j = 0 := (hp_null hW (hW.2.2.2.1 j hj)).mp hc
      refine lv_iconst (v := (-1)) hx hb dX0_state_40 (by decide) ?_
      refine hw_topi (y := hp_st M (hp_r M j) w) (by unfold hp_st; rw [if_neg hw0, if_pos h00]) ?_
      exact W.iret (v := (hp_st M (hp_r M j) w)) hx hb hr (fun t ht hW => ⟨rfl, ht⟩) (fun q h => nomatch h) dX0_state_41
  · have hw0 : w = 0 := (nI_eq (b := 0) (by omega) (by decide)).mp (hc.trans nI_0.symm)
    refine lv_iload_n hx hb dX0_state_20 rfl (lv_at hl 0 rfl) ?_
    refine lv_iconst (v := (-1)) hx hb dX0_state_21 (by decide) ?_
    refine lv_icmp_ne hx hb dX0_state_22 (tgt := 29) (by decide) (fun hc => ?_) (fun hc => ?_)
    · have h00 : hp_r M j ≠ 0 := fun h9 => hc ((hp_null hW (hW.2.2.2.1 j hj)).mpr h9)
      have hoL := (hW.2.2.2.1 j hj).resolve_left h00
      have hcell := hC.2.2.2.2 _ hoL
      have hlt := hp_pl_lt hW hoL
      refine lv_aload_n hx hb dX0_state_29 rfl (lv_at hl 1 rfl) ?_
      refine lv_iload_n hx hb dX0_state_30 rfl (lv_at hl 0 rfl) ?_
      refine hw_topi (y := nI (hp_pl M (hp_r M j))) (hp_en h00) ?_
      refine W.callR (W.runV (As := [.int (nI (hp_pl M (hp_r M j)))]) (rest := []) ⟨hx, hb, hml, hown, hts⟩ (c_X0_kindAt l dC dI h0 a1 a2 a3 a4 c1 c2 c3 c4 ce rg tk ob co re rc np _ (by omega)) (cwV 1 hts gw_X0_59 rfl rfl rfl ⟨rfl, by decide, by decide, by decide +kernel⟩ ⟨Nat.le_of_ble_eq_true rfl, Nat.le_of_ble_eq_true rfl⟩) ⟨hw_blind, va_recv (q0 := 0) (ci := 0) (q := (RX0, TX0, 8)) hK hP rfl rfl, hw_pay hP hK hD⟩ rfl rfl hl.1 rfl (lv_room (Nat.le_of_ble_eq_true rfl)) dX0_state_31 ⟨by decide, by decide⟩) ?_
      refine W.eq (g2 := F0 m 34 ls [.int ((ce (hp_pl M (hp_r M j))).toInt32 &&& 3)]) rfl ?_
      refine hw_topi (y := hp_st M (hp_r M j) w) (by unfold hp_st; rw [if_pos hw0, if_neg h00]; exact hp_rkind hW hoL hcell.1) ?_
      exact W.iret (v := (hp_st M (hp_r M j) w)) hx hb hr (fun t ht hW => ⟨rfl, ht⟩) (fun q h => nomatch h) dX0_state_34
    · have h00 : hp_r M j = 0 := (hp_null hW (hW.2.2.2.1 j hj)).mp hc
      refine lv_iconst (v := 0) hx hb dX0_state_25 (by decide) ?_
      refine lv_goto hx hb dX0_state_26 (tgt := 34) (by decide) ?_
      refine hw_topi (y := hp_st M (hp_r M j) w) (by unfold hp_st; rw [if_pos hw0, if_pos h00]) ?_
      exact W.iret (v := (hp_st M (hp_r M j) w)) hx hb hr (fun t ht hW => ⟨rfl, ht⟩) (fun q h => nomatch h) dX0_state_34

set_option maxHeartbeats 4000000 in
set_option maxRecDepth 100000 in
theorem x_X0_state (l : Launch) (dC : Nat → ClassId) (dI : Nat → Nat → Nat) (h0 a1 a2 a3 a4 : Nat) (c1 c2 c3 c4 : ClassId) (ce : Nat → Int64) (rg : Nat → Int32) (tk ob co : Int32) (re : Nat → Int32) (rc : Int32) (np : Nat → Int32) (sz : Nat) (hl9 : l.stackTraces = false) (r x : Int32) (hbad : hp_bad r 16 ∨ hp_bad x 3) : vx_Met l yX0_state wsX0_state ({ frames := 8, cells := 1, slots := 6, locals := 131 }) (va_Pc [.ref h0, .int r, .int x] (hx_pre (dC, dI) vwCl [(c1, .long), (c2, .int), (c3, .int), (c4, .int)] [(h0, .inr (0, [.ref a1, .ref a2, .int tk, .int ob, .int co, .ref a3, .int rc, .ref a4])), (a1, .inl (c1, 300, .inr (.inl ce))), (a2, .inl (c2, 16, .inl rg)), (a3, .inl (c3, 300, .inl re)), (a4, .inl (c4, 300, .inl np))] sz)) (fun _ _ _ _ => False) (vx_X (fun _ : Unit => True) (fun E u t => (fun (E : String) (_ : Unit) => E = hz_A) E u ∧ hw_B (dC, dI) vwCl [(c1, .long), (c2, .int), (c3, .int), (c4, .int)] (va_A [(h0, .inr (0, [.ref a1, .ref a2, .int tk, .int ob, .int co, .ref a3, .int rc, .ref a4])), (a1, .inl (c1, 300, .inr (.inl ce))), (a2, .inl (c2, 16, .inl rg)), (a3, .inl (c3, 300, .inl re)), (a4, .inl (c4, 300, .inl np))] sz) ((fun _ : Unit => [(h0, .inr (0, [.ref a1, .ref a2, .int tk, .int ob, .int co, .ref a3, .int rc, .ref a4])), (a1, .inl (c1, 300, .inr (.inl ce))), (a2, .inl (c2, 16, .inl rg)), (a3, .inl (c3, 300, .inl re)), (a4, .inl (c4, 300, .inl np))]) u) t) (va_A [(h0, .inr (0, [.ref a1, .ref a2, .int tk, .int ob, .int co, .ref a3, .int rc, .ref a4])), (a1, .inl (c1, 300, .inr (.inl ce))), (a2, .inl (c2, 16, .inl rg)), (a3, .inl (c3, 300, .inl re)), (a4, .inl (c4, 300, .inl np))] sz)) 1 6 (va_A [(h0, .inr (0, [.ref a1, .ref a2, .int tk, .int ob, .int co, .ref a3, .int rc, .ref a4])), (a1, .inl (c1, 300, .inr (.inl ce))), (a2, .inl (c2, 16, .inl rg)), (a3, .inl (c3, 300, .inl re)), (a4, .inl (c4, 300, .inl np))] sz) := by
  refine vx_ofW (cc := cX0_state) (maxL := 4) (ret := some .int) (by decide) rfl ?_
  intro p e s m args below meth c s₁ B hml hEx hv
  obtain ⟨hargs, hsz, hP, hK, hD0, hZ⟩ := hv
  have hx := B.exec
  have hb := B.bytes
  have hr := B.returns
  have hts : ∀ w ∈ wb, w.before _ s = true := fun w h => atoms_spec (ws := wsX0_state) B.pre w (List.mem_cons_of_mem _ h)
  have hown : s.vm.findClass RX0 = some m.cls := findClass_of_methodNamed B.named
  have hlocks := B.notSynchronized
  subst hsz
  have hD := hD0.self (sz := s.heap.size)
  generalize hAe : va_A [(h0, .inr (0, [.ref a1, .ref a2, .int tk, .int ob, .int co, .ref a3, .int rc, .ref a4])), (a1, .inl (c1, 300, .inr (.inl ce))), (a2, .inl (c2, 16, .inl rg)), (a3, .inl (c3, 300, .inl re)), (a4, .inl (c4, 300, .inl np))] s.heap.size = A at hD hZ ⊢
  have hA : ∀ q : Nat, s.heap.size ≤ q → A q := fun q h => by rw [← hAe]; exact Or.inr h
  have hS : va_S A s.heap s.heap [] := va_S.rf
  generalize hQ9 : vx_MQ below (fun _ _ _ _ => False) (vx_X (fun _ : Unit => True) (fun E u t => (fun (E : String) (_ : Unit) => E = hz_A) E u ∧ hw_B (dC, dI) vwCl [(c1, .long), (c2, .int), (c3, .int), (c4, .int)] A ((fun _ : Unit => [(h0, .inr (0, [.ref a1, .ref a2, .int tk, .int ob, .int co, .ref a3, .int rc, .ref a4])), (a1, .inl (c1, 300, .inr (.inl ce))), (a2, .inl (c2, 16, .inl rg)), (a3, .inl (c3, 300, .inl re)), (a4, .inl (c4, 300, .inl np))]) u) t) A) args s 1 6 A = Q9
  have hl := lv_entry ([.ref h0, .int r, .int x]) (n := 4) (Nat.le_of_ble_eq_true rfl)
  rw [show entryFrame m args 4 = _ from (congrArg (fun z => entryFrame m z 4) hargs).trans (lg_entry_eq m [.ref h0, .int r, .int x] 4)]
  generalize (lg_sl ([.ref h0, .int r, .int x]) ++ List.replicate (4 - (lg_sl ([.ref h0, .int r, .int x])).length) Slot.unset).toArray = ls at hl ⊢
  have hl : lv_has ls 4 [(0, .ref h0), (1, .int r), (2, .int x)] := hl
  obtain ⟨H, hH⟩ : ∃ H, H = s.heap := ⟨_, rfl⟩
  rw [← hH] at hP
  have hS : va_S A s.heap H [] := by rw [hH]; exact hS
  rw [← hH]
  generalize ([] : List Loc) = locs at hS ⊢
  refine lv_iload_n hx hb dX0_state_0 rfl (lv_at hl 1 rfl) ?_
  by_cases hr1 : hp_bad r 16
  · skip
    refine hx_throws (vx_runS (As := [.int r]) (rest := []) ⟨hx, hb, hml, hown, hts⟩ (x_X0_checkRegister l hl9 dC dI _ hr1) (va_cwS 1 hts gw_X0_42 rfl rfl rfl ⟨by decide, by decide, by decide +kernel⟩ ⟨Nat.le_of_ble_eq_true rfl, Nat.le_of_ble_eq_true rfl⟩) ⟨hx_blind, hx_pay hx_P0 (hK.sub (tys' := []) [] rfl) hx_D0 hS hA hZ⟩ rfl rfl hl.1 rfl (lv_room (Nat.le_of_ble_eq_true rfl)) dX0_state_1 ⟨by decide, by decide⟩) hP hS hA (fun E ce9 q9 H locs hb9 hP hS h1 h2 h3 => ?_)
    subst hQ9
    exact vx_out (fun x hx => (hEx x hx).elim) hlocks h1 h2 h3 (fun t ht ha => ⟨(), trivial, ⟨hb9, by rw [ht]; exact hP, va_K.moved ha hK, hD⟩, hS.F ht⟩) hS.2.2 (Nat.le_of_ble_eq_true rfl) (Nat.le_of_ble_eq_true rfl)
  · skip
    refine hw_callN (W.runS (As := [.int r]) (rest := []) ⟨hx, hb, hml, hown, hts⟩ (c_X0_checkRegister l hr1) (va_cwS 1 hts gw_X0_42 rfl rfl rfl ⟨by decide, by decide, by decide +kernel⟩ ⟨Nat.le_of_ble_eq_true rfl, Nat.le_of_ble_eq_true rfl⟩) preEq rfl rfl hl.1 rfl (lv_room (Nat.le_of_ble_eq_true rfl)) dX0_state_1 ⟨by decide, by decide⟩) ?_
    refine lv_iload_n hx hb dX0_state_4 rfl (lv_at hl 2 rfl) ?_
    refine lv_iconst (v := 3) hx hb dX0_state_5 (by decide) ?_
    refine hx_throws (vx_runS (As := [.int x, .int 3]) (rest := []) ⟨hx, hb, hml, hown, hts⟩ (x_X0_checkBelow l hl9 dC dI _ (hbad.resolve_left hr1)) (va_cwS 2 hts gw_X0_46 rfl rfl rfl ⟨by decide, by decide, by decide +kernel⟩ ⟨Nat.le_of_ble_eq_true rfl, Nat.le_of_ble_eq_true rfl⟩) ⟨hx_blind, hx_pay hx_P0 (hK.sub (tys' := []) [] rfl) hx_D0 hS hA hZ⟩ rfl rfl hl.1 rfl (lv_room (Nat.le_of_ble_eq_true rfl)) dX0_state_6 ⟨by decide, by decide⟩) hP hS hA (fun E ce9 q9 H locs hb9 hP hS h1 h2 h3 => ?_)
    subst hQ9
    exact vx_out (fun x hx => (hEx x hx).elim) hlocks h1 h2 h3 (fun t ht ha => ⟨(), trivial, ⟨hb9, by rw [ht]; exact hP, va_K.moved ha hK, hD⟩, hS.F ht⟩) hS.2.2 (Nat.le_of_ble_eq_true rfl) (Nat.le_of_ble_eq_true rfl)

set_option maxHeartbeats 4000000 in
set_option maxRecDepth 100000 in
theorem c_X0_count (l : Launch) (dC : Nat → ClassId) (dI : Nat → Nat → Nat) (h0 a1 a2 a3 a4 : Nat) (c1 c2 c3 c4 : ClassId) (ce : Nat → Int64) (rg : Nat → Int32) (tk ob co : Int32) (re : Nat → Int32) (rc : Int32) (np : Nat → Int32) (sz : Nat) (M : hp_S) (hW : hp_W M) (hC : hp_C M ce rg tk ob co) (x : Int32) : Met l yX0_count wsX0_count ({ frames := 0, cells := 0, slots := 0, locals := 0 }) (va_Pc [.ref h0, .int x] (hw_pre (dC, dI) vwCl [(c1, .long), (c2, .int), (c3, .int), (c4, .int)] [(h0, .inr (0, [.ref a1, .ref a2, .int tk, .int ob, .int co, .ref a3, .int rc, .ref a4])), (a1, .inl (c1, 300, .inr (.inl ce))), (a2, .inl (c2, 16, .inl rg)), (a3, .inl (c3, 300, .inl re)), (a4, .inl (c4, 300, .inl np))] sz)) (QcRead (hp_ct M x)) 0 0 (fun _ => False) := by
  refine Met.ofW (cc := cX0_count) (maxL := 2) (ret := some .int) (by decide) rfl ?_
  intro p e s m args below meth c s₁ B hml hv
  obtain ⟨rfl, hsz, hP, hK, hD0⟩ := hv
  have hx := B.exec
  have hb := B.bytes
  have hr := B.returns
  have hts : ∀ w ∈ wb, w.before _ s = true := fun w h => atoms_spec (ws := wsX0_count) B.pre w (List.mem_cons_of_mem _ h)
  have hown : s.vm.findClass RX0 = some m.cls := findClass_of_methodNamed B.named
  have hlocks := B.notSynchronized
  subst hsz
  have hD := hD0
  have hl := lv_entry ([.ref h0, .int x]) (n := 2) (Nat.le_of_ble_eq_true rfl)
  rw [lg_entry_eq]
  generalize (lg_sl ([.ref h0, .int x]) ++ List.replicate (2 - (lg_sl ([.ref h0, .int x])).length) Slot.unset).toArray = ls at hl ⊢
  have hl : lv_has ls 2 [(0, .ref h0), (1, .int x)] := hl
  refine lv_iload_n hx hb dX0_count_0 rfl (lv_at hl 1 rfl) ?_
  rcases (show x = 0 ∨ x = 1 ∨ x = 2 ∨ (¬ x = 0 ∧ ¬ x = 1 ∧ ¬ x = 2) from by
      by_cases e0 : x = 0
      · exact Or.inl e0
      · by_cases e1 : x = 1
        · exact Or.inr (Or.inl e1)
        · by_cases e2 : x = 2
          · exact Or.inr (Or.inr (Or.inl e2))
          · exact Or.inr (Or.inr (Or.inr ⟨e0, e1, e2⟩))) with e0 | e1 | e2 | ⟨e0, e1, e2⟩
  · skip
    subst e0
    refine lv_tableIn (off := 27) (tgt := 28) hx hb dX0_count_1 (by decide) (by decide) (by decide) (by decide) ?_
    refine lv_aload_n hx hb dX0_count_28 rfl (lv_at hl 0 rfl) ?_
    refine va_get (D := (dC, dI)) (ci := 0) (v := .int tk) (C := RX0) (T := TX0) (N := 8) hx hb hts inX0 hown hK hP 0 rfl rfl 2 (by decide) (hts _ bw_fl_X0_17) (fun _ h9 => h9) rfl dX0_count_29 ?_
    refine hw_topi (y := hp_ct M 0) (by unfold hp_ct; rw [if_pos rfl]; exact hC.1) ?_
    exact W.iret (v := (hp_ct M 0)) hx hb hr (fun t ht hW => ⟨rfl, ht⟩) (fun q h => nomatch h) dX0_count_32
  · skip
    subst e1
    refine lv_tableIn (off := 32) (tgt := 33) hx hb dX0_count_1 (by decide) (by decide) (by decide) (by decide) ?_
    refine lv_aload_n hx hb dX0_count_33 rfl (lv_at hl 0 rfl) ?_
    refine va_get (D := (dC, dI)) (ci := 0) (v := .int ob) (C := RX0) (T := TX0) (N := 8) hx hb hts inX0 hown hK hP 0 rfl rfl 3 (by decide) (hts _ bw_fl_X0_21) (fun _ h9 => h9) rfl dX0_count_34 ?_
    refine hw_topi (y := hp_ct M 1) (by unfold hp_ct; rw [if_neg (by decide), if_pos rfl]; exact hC.2.1) ?_
    exact W.iret (v := (hp_ct M 1)) hx hb hr (fun t ht hW => ⟨rfl, ht⟩) (fun q h => nomatch h) dX0_count_37
  · skip
    subst e2
    refine lv_tableIn (off := 37) (tgt := 38) hx hb dX0_count_1 (by decide) (by decide) (by decide) (by decide) ?_
    refine lv_aload_n hx hb dX0_count_38 rfl (lv_at hl 0 rfl) ?_
    refine va_get (D := (dC, dI)) (ci := 0) (v := .int co) (C := RX0) (T := TX0) (N := 8) hx hb hts inX0 hown hK hP 0 rfl rfl 4 (by decide) (hts _ bw_fl_X0_24) (fun _ h9 => h9) rfl dX0_count_39 ?_
    refine hw_topi (y := hp_ct M 2) (by unfold hp_ct; rw [if_neg (by decide), if_neg (by decide), if_pos rfl]; exact hC.2.2.1) ?_
    exact W.iret (v := (hp_ct M 2)) hx hb hr (fun t ht hW => ⟨rfl, ht⟩) (fun q h => nomatch h) dX0_count_42
  · skip
    refine lv_tableOut (tgt := 43) hx hb dX0_count_1 (hp_sw e0 e1 e2) (by decide) ?_
    refine lv_iconst (v := (-1)) hx hb dX0_count_43 (by decide) ?_
    refine hw_topi (y := hp_ct M x) (by unfold hp_ct; rw [if_neg e0, if_neg e1, if_neg e2]) ?_
    exact W.iret (v := (hp_ct M x)) hx hb hr (fun t ht hW => ⟨rfl, ht⟩) (fun q h => nomatch h) dX0_count_44

set_option maxHeartbeats 4000000 in
set_option maxRecDepth 100000 in
theorem c_X0_collect (l : Launch) (dC : Nat → ClassId) (dI : Nat → Nat → Nat) (h0 a1 a2 a3 a4 : Nat) (c1 c2 c3 c4 : ClassId) (ce : Nat → Int64) (rg : Nat → Int32) (tk ob co : Int32) (re : Nat → Int32) (rc : Int32) (np : Nat → Int32) (sz : Nat) (M : hp_S) (hW : hp_W M) (hC : hp_C M ce rg tk ob co) : Met l yX0_collect wsX0_collect ({ frames := 5, cells := 0, slots := 0, locals := 111 }) (va_Pc [.ref h0] (hw_pre (dC, dI) vwCl [(c1, .long), (c2, .int), (c3, .int), (c4, .int)] [(h0, .inr (0, [.ref a1, .ref a2, .int tk, .int ob, .int co, .ref a3, .int rc, .ref a4])), (a1, .inl (c1, 300, .inr (.inl ce))), (a2, .inl (c2, 16, .inl rg)), (a3, .inl (c3, 300, .inl re)), (a4, .inl (c4, 300, .inl np))] sz)) (va_Qi (fun (r : Int32) (u : (Nat → Int64) × (Nat → Int32) × Int32 × Int32 × Int32 × (Nat → Int32) × Int32 × (Nat → Int32)) => r = nI (hp_L M).length - nI (hp_L (hp_col M)).length ∧ hp_C (hp_col M) u.1 u.2.1 u.2.2.1 u.2.2.2.1 u.2.2.2.2.1) (fun u t => hw_B (dC, dI) vwCl [(c1, .long), (c2, .int), (c3, .int), (c4, .int)] (va_A [(h0, .inr (0, [.ref a1, .ref a2, .int tk, .int ob, .int co, .ref a3, .int rc, .ref a4])), (a1, .inl (c1, 300, .inr (.inl ce))), (a2, .inl (c2, 16, .inl rg)), (a3, .inl (c3, 300, .inl re)), (a4, .inl (c4, 300, .inl np))] sz) ((fun u : (Nat → Int64) × (Nat → Int32) × Int32 × Int32 × Int32 × (Nat → Int32) × Int32 × (Nat → Int32) => [(h0, .inr (0, [.ref a1, .ref a2, .int u.2.2.1, .int u.2.2.2.1, .int u.2.2.2.2.1, .ref a3, .int u.2.2.2.2.2.2.1, .ref a4])), (a1, .inl (c1, 300, .inr (.inl u.1))), (a2, .inl (c2, 16, .inl u.2.1)), (a3, .inl (c3, 300, .inl u.2.2.2.2.2.1)), (a4, .inl (c4, 300, .inl u.2.2.2.2.2.2.2))]) u) t) (va_A [(h0, .inr (0, [.ref a1, .ref a2, .int tk, .int ob, .int co, .ref a3, .int rc, .ref a4])), (a1, .inl (c1, 300, .inr (.inl ce))), (a2, .inl (c2, 16, .inl rg)), (a3, .inl (c3, 300, .inl re)), (a4, .inl (c4, 300, .inl np))] sz)) 0 0 (va_A [(h0, .inr (0, [.ref a1, .ref a2, .int tk, .int ob, .int co, .ref a3, .int rc, .ref a4])), (a1, .inl (c1, 300, .inr (.inl ce))), (a2, .inl (c2, 16, .inl rg)), (a3, .inl (c3, 300, .inl re)), (a4, .inl (c4, 300, .inl np))] sz) := by
  refine Met.ofW (cc := cX0_collect) (maxL := 2) (ret := some .int) (by decide) rfl ?_
  intro p e s m args below meth c s₁ B hml hv
  obtain ⟨hargs, hsz, hP, hK, hD0⟩ := hv
  have hx := B.exec
  have hb := B.bytes
  have hr := B.returns
  have hts : ∀ w ∈ wb, w.before _ s = true := fun w h => atoms_spec (ws := wsX0_collect) B.pre w (List.mem_cons_of_mem _ h)
  have hown : s.vm.findClass RX0 = some m.cls := findClass_of_methodNamed B.named
  have hlocks := B.notSynchronized
  subst hsz
  have hD := hD0.self (sz := s.heap.size)
  generalize hAe : va_A [(h0, .inr (0, [.ref a1, .ref a2, .int tk, .int ob, .int co, .ref a3, .int rc, .ref a4])), (a1, .inl (c1, 300, .inr (.inl ce))), (a2, .inl (c2, 16, .inl rg)), (a3, .inl (c3, 300, .inl re)), (a4, .inl (c4, 300, .inl np))] s.heap.size = A at hD ⊢
  have hA : ∀ q : Nat, s.heap.size ≤ q → A q := fun q h => by rw [← hAe]; exact Or.inr h
  have hS : va_S A s.heap s.heap [] := va_S.rf
  generalize hQ9 : MQ below (va_Qi (fun (r : Int32) (u : (Nat → Int64) × (Nat → Int32) × Int32 × Int32 × Int32 × (Nat → Int32) × Int32 × (Nat → Int32)) => r = nI (hp_L M).length - nI (hp_L (hp_col M)).length ∧ hp_C (hp_col M) u.1 u.2.1 u.2.2.1 u.2.2.2.1 u.2.2.2.2.1) (fun u t => hw_B (dC, dI) vwCl [(c1, .long), (c2, .int), (c3, .int), (c4, .int)] A ((fun u : (Nat → Int64) × (Nat → Int32) × Int32 × Int32 × Int32 × (Nat → Int32) × Int32 × (Nat → Int32) => [(h0, .inr (0, [.ref a1, .ref a2, .int u.2.2.1, .int u.2.2.2.1, .int u.2.2.2.2.1, .ref a3, .int u.2.2.2.2.2.2.1, .ref a4])), (a1, .inl (c1, 300, .inr (.inl u.1))), (a2, .inl (c2, 16, .inl u.2.1)), (a3, .inl (c3, 300, .inl u.2.2.2.2.2.1)), (a4, .inl (c4, 300, .inl u.2.2.2.2.2.2.2))]) u) t) A) args s 0 0 A = Q9
  have hl := lv_entry ([.ref h0]) (n := 2) (Nat.le_of_ble_eq_true rfl)
  rw [show entryFrame m args 2 = _ from (congrArg (fun z => entryFrame m z 2) hargs).trans (lg_entry_eq m [.ref h0] 2)]
  generalize (lg_sl ([.ref h0]) ++ List.replicate (2 - (lg_sl ([.ref h0])).length) Slot.unset).toArray = ls at hl ⊢
  have hl : lv_has ls 2 [(0, .ref h0)] := hl
  obtain ⟨H, hH⟩ : ∃ H, H = s.heap := ⟨_, rfl⟩
  rw [← hH] at hP
  have hS : va_S A s.heap H [] := by rw [hH]; exact hS
  rw [← hH]
  generalize ([] : List Loc) = locs at hS ⊢
  refine lv_aload_n hx hb dX0_collect_0 rfl (lv_at hl 0 rfl) ?_
  refine va_get (D := (dC, dI)) (ci := 0) (v := .int ob) (C := RX0) (T := TX0) (N := 8) hx hb hts inX0 hown hK hP 0 rfl rfl 3 (by decide) (hts _ bw_fl_X0_21) (fun _ h9 => h9) rfl dX0_collect_1 ?_
  refine lv_istore_n hx hb dX0_collect_4 rfl hl (by decide) rfl (fun ls hl => ?_)
  have hl : lv_has ls 2 [(1, .int ob), (0, .ref h0)] := hl
  refine lv_aload_n hx hb dX0_collect_5 rfl (lv_at hl 1 rfl) ?_
  refine hw_callv (va_runV (As := []) (rest := []) ⟨hx, hb, hml, hown, hts⟩ (c_X0_pressTogether l dC dI h0 a1 a2 a3 a4 c1 c2 c3 c4 ce rg tk ob co re rc np _ M hW hC) (cwV 0 hts gw_X0_73 rfl rfl rfl ⟨rfl, by decide, by decide, by decide +kernel⟩ ⟨Nat.le_of_ble_eq_true rfl, Nat.le_of_ble_eq_true rfl⟩) ⟨hw_blind, va_recv (q0 := 0) (ci := 0) (q := (RX0, TX0, 8)) hK hP rfl rfl, hw_pay hP hK hD⟩ rfl rfl hl.1 rfl (lv_room (Nat.le_of_ble_eq_true rfl)) dX0_collect_6 ⟨by decide, by decide⟩) hD hS hA (fun u9 H locs hw hP hD hS => ?_)
  obtain ⟨ce, rg, tk, ob1, co, re, rc, np⟩ := u9
  have hP : va_P (dC, dI) vwCl [(h0, .inr (0, [.ref a1, .ref a2, .int tk, .int ob1, .int co, .ref a3, .int rc, .ref a4])), (a1, .inl (c1, 300, .inr (.inl ce))), (a2, .inl (c2, 16, .inl rg)), (a3, .inl (c3, 300, .inl re)), (a4, .inl (c4, 300, .inl np))] H := hP
  have hD : va_D A [(h0, .inr (0, [.ref a1, .ref a2, .int tk, .int ob1, .int co, .ref a3, .int rc, .ref a4])), (a1, .inl (c1, 300, .inr (.inl ce))), (a2, .inl (c2, 16, .inl rg)), (a3, .inl (c3, 300, .inl re)), (a4, .inl (c4, 300, .inl np))] := hD
  refine lv_iload_n hx hb dX0_collect_9 rfl (lv_at hl 0 rfl) ?_
  refine lv_aload_n hx hb dX0_collect_10 rfl (lv_at hl 1 rfl) ?_
  refine va_get (D := (dC, dI)) (ci := 0) (v := .int ob1) (C := RX0) (T := TX0) (N := 8) hx hb hts inX0 hown hK hP 0 rfl rfl 3 (by decide) (hts _ bw_fl_X0_21) (fun _ h9 => h9) rfl dX0_collect_11 ?_
  refine lv_isub hx hb dX0_collect_14 ?_
  subst hQ9
  exact W.iret (v := ob - ob1) hx hb hr (fun t ht hWm => ⟨⟨ob - ob1, (ce, rg, tk, ob1, co, re, rc, np), rfl, ⟨by rw [hC.2.1, show ob1 = nI (hp_L (hp_col M)).length from hw.2.1], hw⟩, by rw [ht]; exact hP, va_K.moved hWm.alike hK, hD⟩, hS.F ht⟩) hS.2.2 dX0_collect_15

set_option maxHeartbeats 4000000 in
set_option maxRecDepth 100000 in
theorem c_X0_make (l : Launch) (dC : Nat → ClassId) (dI : Nat → Nat → Nat) (h0 a1 a2 a3 a4 : Nat) (c1 c2 c3 c4 : ClassId) (ce : Nat → Int64) (rg : Nat → Int32) (tk ob co : Int32) (re : Nat → Int32) (rc : Int32) (np : Nat → Int32) (sz : Nat) (M : hp_S) (hW : hp_W M) (hC : hp_C M ce rg tk ob co) (j n k : Nat) (lk : Int32) (hj : j < 16) (hn : n ≤ 40) (hlk : lk = 0 ∧ k = 2 ∨ ¬ lk = 0 ∧ k = 1) (hfit : hp_tk (hp_rm M n) + (1 + n) ≤ 300) : Met l yX0_make wsX0_make ({ frames := 6, cells := 0, slots := 0, locals := 134 }) (va_Pc [.ref h0, .int (nI j), .int lk, .int (nI n)] (hw_pre (dC, dI) vwCl [(c1, .long), (c2, .int), (c3, .int), (c4, .int)] [(h0, .inr (0, [.ref a1, .ref a2, .int tk, .int ob, .int co, .ref a3, .int rc, .ref a4])), (a1, .inl (c1, 300, .inr (.inl ce))), (a2, .inl (c2, 16, .inl rg)), (a3, .inl (c3, 300, .inl re)), (a4, .inl (c4, 300, .inl np))] sz)) (va_Qi (fun (r : Int32) (u : (Nat → Int64) × (Nat → Int32) × Int32 × Int32 × Int32 × (Nat → Int32) × Int32 × (Nat → Int32)) => r = nI (hp_tk (hp_rm M n)) ∧ ∀ o, o ∉ hp_L (hp_rm M n) → 1 ≤ o → hp_C (hp_sr (hp_mk (hp_rm M n) o k n) j o) u.1 u.2.1 u.2.2.1 u.2.2.2.1 u.2.2.2.2.1) (fun u t => hw_B (dC, dI) vwCl [(c1, .long), (c2, .int), (c3, .int), (c4, .int)] (va_A [(h0, .inr (0, [.ref a1, .ref a2, .int tk, .int ob, .int co, .ref a3, .int rc, .ref a4])), (a1, .inl (c1, 300, .inr (.inl ce))), (a2, .inl (c2, 16, .inl rg)), (a3, .inl (c3, 300, .inl re)), (a4, .inl (c4, 300, .inl np))] sz) ((fun u : (Nat → Int64) × (Nat → Int32) × Int32 × Int32 × Int32 × (Nat → Int32) × Int32 × (Nat → Int32) => [(h0, .inr (0, [.ref a1, .ref a2, .int u.2.2.1, .int u.2.2.2.1, .int u.2.2.2.2.1, .ref a3, .int u.2.2.2.2.2.2.1, .ref a4])), (a1, .inl (c1, 300, .inr (.inl u.1))), (a2, .inl (c2, 16, .inl u.2.1)), (a3, .inl (c3, 300, .inl u.2.2.2.2.2.1)), (a4, .inl (c4, 300, .inl u.2.2.2.2.2.2.2))]) u) t) (va_A [(h0, .inr (0, [.ref a1, .ref a2, .int tk, .int ob, .int co, .ref a3, .int rc, .ref a4])), (a1, .inl (c1, 300, .inr (.inl ce))), (a2, .inl (c2, 16, .inl rg)), (a3, .inl (c3, 300, .inl re)), (a4, .inl (c4, 300, .inl np))] sz)) 0 0 (va_A [(h0, .inr (0, [.ref a1, .ref a2, .int tk, .int ob, .int co, .ref a3, .int rc, .ref a4])), (a1, .inl (c1, 300, .inr (.inl ce))), (a2, .inl (c2, 16, .inl rg)), (a3, .inl (c3, 300, .inl re)), (a4, .inl (c4, 300, .inl np))] sz) := by
  refine Met.ofW (cc := cX0_make) (maxL := 8) (ret := some .int) (by decide) rfl ?_
  intro p e s m args below meth c s₁ B hml hv
  obtain ⟨hargs, hsz, hP, hK, hD0⟩ := hv
  have hx := B.exec
  have hb := B.bytes
  have hr := B.returns
  have hts : ∀ w ∈ wb, w.before _ s = true := fun w h => atoms_spec (ws := wsX0_make) B.pre w (List.mem_cons_of_mem _ h)
  have hown : s.vm.findClass RX0 = some m.cls := findClass_of_methodNamed B.named
  have hlocks := B.notSynchronized
  subst hsz
  have hD := hD0.self (sz := s.heap.size)
  generalize hAe : va_A [(h0, .inr (0, [.ref a1, .ref a2, .int tk, .int ob, .int co, .ref a3, .int rc, .ref a4])), (a1, .inl (c1, 300, .inr (.inl ce))), (a2, .inl (c2, 16, .inl rg)), (a3, .inl (c3, 300, .inl re)), (a4, .inl (c4, 300, .inl np))] s.heap.size = A at hD ⊢
  have hA : ∀ q : Nat, s.heap.size ≤ q → A q := fun q h => by rw [← hAe]; exact Or.inr h
  have hS : va_S A s.heap s.heap [] := va_S.rf
  generalize hQ9 : MQ below (va_Qi (fun (r : Int32) (u : (Nat → Int64) × (Nat → Int32) × Int32 × Int32 × Int32 × (Nat → Int32) × Int32 × (Nat → Int32)) => r = nI (hp_tk (hp_rm M n)) ∧ ∀ o, o ∉ hp_L (hp_rm M n) → 1 ≤ o → hp_C (hp_sr (hp_mk (hp_rm M n) o k n) j o) u.1 u.2.1 u.2.2.1 u.2.2.2.1 u.2.2.2.2.1) (fun u t => hw_B (dC, dI) vwCl [(c1, .long), (c2, .int), (c3, .int), (c4, .int)] A ((fun u : (Nat → Int64) × (Nat → Int32) × Int32 × Int32 × Int32 × (Nat → Int32) × Int32 × (Nat → Int32) => [(h0, .inr (0, [.ref a1, .ref a2, .int u.2.2.1, .int u.2.2.2.1, .int u.2.2.2.2.1, .ref a3, .int u.2.2.2.2.2.2.1, .ref a4])), (a1, .inl (c1, 300, .inr (.inl u.1))), (a2, .inl (c2, 16, .inl u.2.1)), (a3, .inl (c3, 300, .inl u.2.2.2.2.2.1)), (a4, .inl (c4, 300, .inl u.2.2.2.2.2.2.2))]) u) t) A) args s 0 0 A = Q9
  have hl := lv_entry ([.ref h0, .int (nI j), .int lk, .int (nI n)]) (n := 8) (Nat.le_of_ble_eq_true rfl)
  rw [show entryFrame m args 8 = _ from (congrArg (fun z => entryFrame m z 8) hargs).trans (lg_entry_eq m [.ref h0, .int (nI j), .int lk, .int (nI n)] 8)]
  generalize (lg_sl ([.ref h0, .int (nI j), .int lk, .int (nI n)]) ++ List.replicate (8 - (lg_sl ([.ref h0, .int (nI j), .int lk, .int (nI n)])).length) Slot.unset).toArray = ls at hl ⊢
  have hl : lv_has ls 8 [(0, .ref h0), (1, .int (nI j)), (2, .int lk), (3, .int (nI n))] := hl
  obtain ⟨H, hH⟩ : ∃ H, H = s.heap := ⟨_, rfl⟩
  rw [← hH] at hP
  have hS : va_S A s.heap H [] := by rw [hH]; exact hS
  rw [← hH]
  generalize ([] : List Loc) = locs at hS ⊢
  have hW1 := hp_rm_W hW n
  have hT1 := hW1.2.2.2.2.2
  have hk4 : k < 4 := by omega
  have tail37 : ∀ (ce : Nat → Int64) (rg : Nat → Int32) (tk : Int32) (ob : Int32) (co : Int32) (re : Nat → Int32) (rc : Int32) (np : Nat → Int32) (H : Heap) (locs : List Loc) (ls : Array Slot), (∃ ce1 tk1 ob1, hp_C (hp_rm M n) ce1 rg tk1 ob1 co ∧ ce = vp_updL ce1 (hp_tk (hp_rm M n)) (lN (4 * n + k)) ∧ tk = nI (hp_tk (hp_rm M n) + (1 + n)) ∧ ob = nI ((hp_L (hp_rm M n)).length + 1)) → va_P (dC, dI) vwCl [(h0, .inr (0, [.ref a1, .ref a2, .int tk, .int ob, .int co, .ref a3, .int rc, .ref a4])), (a1, .inl (c1, 300, .inr (.inl ce))), (a2, .inl (c2, 16, .inl rg)), (a3, .inl (c3, 300, .inl re)), (a4, .inl (c4, 300, .inl np))] H → va_D A [(h0, .inr (0, [.ref a1, .ref a2, .int tk, .int ob, .int co, .ref a3, .int rc, .ref a4])), (a1, .inl (c1, 300, .inr (.inl ce))), (a2, .inl (c2, 16, .inl rg)), (a3, .inl (c3, 300, .inl re)), (a4, .inl (c4, 300, .inl np))] → va_S A s.heap H locs → lv_has ls 8 [(4, .int (nI (hp_tk (hp_rm M n)))), (1, .int (nI j)), (2, .int lk), (3, .int (nI n)), (0, .ref h0)] → W p l e (headSpec wsX0_make ({ frames := 6, cells := 0, slots := 0, locals := 134 })).room s m args below meth c H locs 0 0 Q9 (F0 m 37 ls [.long (hp_f0 k)]) := by
    intro ce rg tk ob co re rc np H locs ls hI hP hD hS hl
    obtain ⟨ce1, tk1, ob1, hC1, hce, htk, hob⟩ := hI
    refine lv_lstore hx hb dX0_make_37 hl (by decide) rfl (fun ls hl => ?_)
    have hl : lv_has ls 8 [(5, .long (hp_f0 k)), (4, .int (nI (hp_tk (hp_rm M n)))), (1, .int (nI j)), (2, .int lk), (3, .int (nI n)), (0, .ref h0)] := hl
    refine lv_iconst (v := 0) hx hb dX0_make_39 (by decide) ?_
    refine hw_topi (y := nI 0) (nI_0.symm) ?_
    refine lv_istore hx hb dX0_make_40 hl (by decide) rfl (fun ls hl => ?_)
    have hl : lv_has ls 8 [(7, .int (nI 0)), (5, .long (hp_f0 k)), (4, .int (nI (hp_tk (hp_rm M n)))), (1, .int (nI j)), (2, .int lk), (3, .int (nI n)), (0, .ref h0)] := hl
    have loop : ∀ (n9 : Nat) (i : Nat) (ce : Nat → Int64) (H : Heap) (locs : List Loc) (ls : Array Slot), n - i < n9 → (i ≤ n ∧ hp_mw (hp_rm M n) n k ce1 ce i) → va_P (dC, dI) vwCl [(h0, .inr (0, [.ref a1, .ref a2, .int tk, .int ob, .int co, .ref a3, .int rc, .ref a4])), (a1, .inl (c1, 300, .inr (.inl ce))), (a2, .inl (c2, 16, .inl rg)), (a3, .inl (c3, 300, .inl re)), (a4, .inl (c4, 300, .inl np))] H → va_D A [(h0, .inr (0, [.ref a1, .ref a2, .int tk, .int ob, .int co, .ref a3, .int rc, .ref a4])), (a1, .inl (c1, 300, .inr (.inl ce))), (a2, .inl (c2, 16, .inl rg)), (a3, .inl (c3, 300, .inl re)), (a4, .inl (c4, 300, .inl np))] → va_S A s.heap H locs → lv_has ls 8 [(7, .int (nI i)), (5, .long (hp_f0 k)), (4, .int (nI (hp_tk (hp_rm M n)))), (1, .int (nI j)), (2, .int lk), (3, .int (nI n)), (0, .ref h0)] → W p l e (headSpec wsX0_make ({ frames := 6, cells := 0, slots := 0, locals := 134 })).room s m args below meth c H locs 0 0 Q9 (F0 m 42 ls []) := by
      intro n9
      induction n9 with
      | zero => intro i ce H locs ls hm; exact absurd hm (Nat.not_lt_zero _)
      | succ n9 ih =>
        intro i ce H locs ls hm hI hP hD hS hl
        refine lv_iload hx hb dX0_make_42 (lv_at hl 0 rfl) ?_
        refine lv_iload_n hx hb dX0_make_44 rfl (lv_at hl 5 rfl) ?_
        refine lv_icmp_ge hx hb dX0_make_45 (tgt := 68) (by decide) (fun hc => ?_) (fun hc => ?_)
        · have hi : n = i := by
            have h1 := (nI_leI (by omega) (by omega)).mp hc
            omega
          subst hi
          refine lv_aload_n hx hb dX0_make_68 rfl (lv_at hl 6 rfl) ?_
          refine va_get (D := (dC, dI)) (ci := 0) (v := .ref a2) (C := RX0) (T := TX0) (N := 8) hx hb hts inX0 hown hK hP 0 rfl rfl 1 (by decide) (hts _ bw_fl_X0_13) (fun _ h9 => h9) rfl dX0_make_69 ?_
          refine lv_iload_n hx hb dX0_make_72 rfl (lv_at hl 3 rfl) ?_
          refine lv_iload hx hb dX0_make_73 (lv_at hl 2 rfl) ?_
          refine hw_iast (j := j) hx hb hK hP hD hS 2 1 rfl rfl (rfl) (hj) (by decide) dX0_make_75 (fun H locs hP hD hS => ?_)
          have hP : va_P (dC, dI) vwCl [(h0, .inr (0, [.ref a1, .ref a2, .int tk, .int ob, .int co, .ref a3, .int rc, .ref a4])), (a1, .inl (c1, 300, .inr (.inl ce))), (a2, .inl (c2, 16, .inl (upd rg j (nI (hp_tk (hp_rm M n)))))), (a3, .inl (c3, 300, .inl re)), (a4, .inl (c4, 300, .inl np))] H := hP
          have hD : va_D A [(h0, .inr (0, [.ref a1, .ref a2, .int tk, .int ob, .int co, .ref a3, .int rc, .ref a4])), (a1, .inl (c1, 300, .inr (.inl ce))), (a2, .inl (c2, 16, .inl (upd rg j (nI (hp_tk (hp_rm M n)))))), (a3, .inl (c3, 300, .inl re)), (a4, .inl (c4, 300, .inl np))] := hD
          refine lv_iload hx hb dX0_make_76 (lv_at hl 2 rfl) ?_
          subst hQ9
          exact W.iret (v := nI (hp_tk (hp_rm M n))) hx hb hr (fun t ht hWm => ⟨⟨nI (hp_tk (hp_rm M n)), (ce, (upd rg j (nI (hp_tk (hp_rm M n)))), tk, ob, co, re, rc, np), rfl, ⟨rfl, fun o ho h1 => by rw [htk, hob]; exact hp_mk_done hW1 hC1 hI.2 o ho h1⟩, by rw [ht]; exact hP, va_K.moved hWm.alike hK, hD⟩, hS.F ht⟩) hS.2.2 dX0_make_78
        · have hi : i < n := Nat.lt_of_not_le (fun h9 => hc ((nI_leI (by omega) (by omega)).mpr (by omega)))
          refine lv_aload_n hx hb dX0_make_48 rfl (lv_at hl 6 rfl) ?_
          refine va_get (D := (dC, dI)) (ci := 0) (v := .ref a1) (C := RX0) (T := TX0) (N := 8) hx hb hts inX0 hown hK hP 0 rfl rfl 0 (by decide) (hts _ bw_fl_X0_9) (fun _ h9 => h9) rfl dX0_make_49 ?_
          refine lv_iload hx hb dX0_make_52 (lv_at hl 2 rfl) ?_
          refine lv_iconst (v := 1) hx hb dX0_make_54 (by decide) ?_
          refine lv_iadd hx hb dX0_make_55 ?_
          refine lv_iload hx hb dX0_make_56 (lv_at hl 0 rfl) ?_
          refine lv_iadd hx hb dX0_make_58 ?_
          refine lv_lload hx hb dX0_make_59 (lv_at hl 1 rfl) ?_
          refine hw_last (j := hp_tk (hp_rm M n) + (1 + i)) hx hb hK hP hD hS 1 0 rfl rfl (by rw [nI_1, nI_add]; congr 1; omega) (by omega) (by decide) dX0_make_61 (fun H locs hP hD hS => ?_)
          have hP : va_P (dC, dI) vwCl [(h0, .inr (0, [.ref a1, .ref a2, .int tk, .int ob, .int co, .ref a3, .int rc, .ref a4])), (a1, .inl (c1, 300, .inr (.inl (vp_updL ce (hp_tk (hp_rm M n) + (1 + i)) (hp_f0 k))))), (a2, .inl (c2, 16, .inl rg)), (a3, .inl (c3, 300, .inl re)), (a4, .inl (c4, 300, .inl np))] H := hP
          have hD : va_D A [(h0, .inr (0, [.ref a1, .ref a2, .int tk, .int ob, .int co, .ref a3, .int rc, .ref a4])), (a1, .inl (c1, 300, .inr (.inl (vp_updL ce (hp_tk (hp_rm M n) + (1 + i)) (hp_f0 k))))), (a2, .inl (c2, 16, .inl rg)), (a3, .inl (c3, 300, .inl re)), (a4, .inl (c4, 300, .inl np))] := hD
          refine lv_iinc (k := 0) (v := nI (i + 1)) hx hb dX0_make_62 hl rfl (nI_1 i) (by decide) rfl (fun ls hl => ?_)
          have hl : lv_has ls 8 [(7, .int (nI (i + 1))), (5, .long (hp_f0 k)), (4, .int (nI (hp_tk (hp_rm M n)))), (1, .int (nI j)), (2, .int lk), (3, .int (nI n)), (0, .ref h0)] := hl
          refine lv_goto hx hb dX0_make_65 (tgt := 42) (by decide) ?_
          exact ih (i + 1) (vp_updL ce (hp_tk (hp_rm M n) + (1 + i)) (hp_f0 k)) H locs ls (by omega) (⟨hi, hp_mw_s hI.2⟩) hP hD hS (lv_sub hl [0, 1, 2, 3, 4, 5, 6] rfl)
    exact loop _ 0 ce H locs ls (Nat.lt_succ_self _) (⟨Nat.zero_le _, by rw [hce]; exact hp_mw_0 _ _ _ _⟩) hP hD hS (lv_sub hl [0, 1, 2, 3, 4, 5, 6] rfl)
  have tail20 : ∀ (ce : Nat → Int64) (rg : Nat → Int32) (tk : Int32) (ob : Int32) (co : Int32) (re : Nat → Int32) (rc : Int32) (np : Nat → Int32) (H : Heap) (locs : List Loc) (ls : Array Slot), (hp_C M ce rg tk ob co) → va_P (dC, dI) vwCl [(h0, .inr (0, [.ref a1, .ref a2, .int tk, .int ob, .int co, .ref a3, .int rc, .ref a4])), (a1, .inl (c1, 300, .inr (.inl ce))), (a2, .inl (c2, 16, .inl rg)), (a3, .inl (c3, 300, .inl re)), (a4, .inl (c4, 300, .inl np))] H → va_D A [(h0, .inr (0, [.ref a1, .ref a2, .int tk, .int ob, .int co, .ref a3, .int rc, .ref a4])), (a1, .inl (c1, 300, .inr (.inl ce))), (a2, .inl (c2, 16, .inl rg)), (a3, .inl (c3, 300, .inl re)), (a4, .inl (c4, 300, .inl np))] → va_S A s.heap H locs → lv_has ls 8 [(1, .int (nI j)), (2, .int lk), (3, .int (nI n)), (0, .ref h0)] → W p l e (headSpec wsX0_make ({ frames := 6, cells := 0, slots := 0, locals := 134 })).room s m args below meth c H locs 0 0 Q9 (F0 m 20 ls [.int (nI k), .ref h0]) := by
    intro ce rg tk ob co re rc np H locs ls hI hP hD hS hl
    refine lv_iload_n hx hb dX0_make_20 rfl (lv_at hl 2 rfl) ?_
    refine hw_calli (va_runV (As := [.int (nI k), .int (nI n)]) (rest := []) ⟨hx, hb, hml, hown, hts⟩ (c_X0_takeCells l dC dI h0 a1 a2 a3 a4 c1 c2 c3 c4 ce rg tk ob co re rc np _ M hW hI k n hk4 hn hfit) (cwV 2 hts gw_X0_50 rfl rfl rfl ⟨rfl, by decide, by decide, by decide +kernel⟩ ⟨Nat.le_of_ble_eq_true rfl, Nat.le_of_ble_eq_true rfl⟩) ⟨hw_blind, va_recv (q0 := 0) (ci := 0) (q := (RX0, TX0, 8)) hK hP rfl rfl, hw_pay hP hK hD⟩ rfl rfl hl.1 rfl (lv_room (Nat.le_of_ble_eq_true rfl)) dX0_make_21 ⟨by decide, by decide⟩) hD hS hA (fun r9 u9 H locs hw hP hD hS => ?_)
    obtain ⟨ce, rg, tk, ob, co, re, rc, np⟩ := u9
    have hP : va_P (dC, dI) vwCl [(h0, .inr (0, [.ref a1, .ref a2, .int tk, .int ob, .int co, .ref a3, .int rc, .ref a4])), (a1, .inl (c1, 300, .inr (.inl ce))), (a2, .inl (c2, 16, .inl rg)), (a3, .inl (c3, 300, .inl re)), (a4, .inl (c4, 300, .inl np))] H := hP
    have hD : va_D A [(h0, .inr (0, [.ref a1, .ref a2, .int tk, .int ob, .int co, .ref a3, .int rc, .ref a4])), (a1, .inl (c1, 300, .inr (.inl ce))), (a2, .inl (c2, 16, .inl rg)), (a3, .inl (c3, 300, .inl re)), (a4, .inl (c4, 300, .inl np))] := hD
    obtain ⟨hr9, hpt⟩ := hw
    refine hw_topi (y := nI (hp_tk (hp_rm M n))) (hr9) ?_
    refine lv_istore hx hb dX0_make_24 hl (by decide) rfl (fun ls hl => ?_)
    have hl : lv_has ls 8 [(4, .int (nI (hp_tk (hp_rm M n)))), (1, .int (nI j)), (2, .int lk), (3, .int (nI n)), (0, .ref h0)] := hl
    refine lv_iload_n hx hb dX0_make_26 rfl (lv_at hl 2 rfl) ?_
    refine lv_if_eq hx hb dX0_make_27 (tgt := 36) (by decide) (fun hc => ?_) (fun hc => ?_)
    · have hk2 : k = 2 := (hlk.resolve_right (fun h9 => h9.1 hc)).2
      refine lv_lconst (v := 0) hx hb dX0_make_36 (by decide) ?_
      refine hw_topl (y := hp_f0 k) (by rw [hk2]; rfl) ?_
      exact tail37 ce rg tk ob co re rc np H locs ls (hpt) hP hD hS (lv_sub hl [0, 1, 2, 3, 4] rfl)
    · have hk2 : k = 1 := (hlk.resolve_left (fun h9 => hc h9.1)).2
      refine W.eq (g2 := F0 m 30 ls []) rfl ?_
      refine W.ldc2 (own := RX0) (v := -1) hx hb hown (hts _ bw_kl_X0_54) rfl dX0_make_30 ?_
      refine W.eq (g2 := F0 m 33 ls [.long (-1)]) rfl ?_
      refine lv_goto hx hb dX0_make_33 (tgt := 37) (by decide) ?_
      refine hw_topl (y := hp_f0 k) (by rw [hk2]; rfl) ?_
      exact tail37 ce rg tk ob co re rc np H locs ls (hpt) hP hD hS (lv_sub hl [0, 1, 2, 3, 4] rfl)
  refine lv_iload_n hx hb dX0_make_0 rfl (lv_at hl 1 rfl) ?_
  refine hw_callN (W.runS (As := [.int (nI j)]) (rest := []) ⟨hx, hb, hml, hown, hts⟩ (c_X0_checkRegister l (hp_ok2 hj (by decide))) (va_cwS 1 hts gw_X0_42 rfl rfl rfl ⟨by decide, by decide, by decide +kernel⟩ ⟨Nat.le_of_ble_eq_true rfl, Nat.le_of_ble_eq_true rfl⟩) preEq rfl rfl hl.1 rfl (lv_room (Nat.le_of_ble_eq_true rfl)) dX0_make_1 ⟨by decide, by decide⟩) ?_
  refine lv_iload_n hx hb dX0_make_4 rfl (lv_at hl 3 rfl) ?_
  refine lv_bipush (v := 41) hx hb dX0_make_5 (by decide) ?_
  refine hw_callN (W.runS (As := [.int (nI n), .int 41]) (rest := []) ⟨hx, hb, hml, hown, hts⟩ (c_X0_checkBelow l (hp_ok2 (n := 41) (by omega) (by decide))) (va_cwS 2 hts gw_X0_46 rfl rfl rfl ⟨by decide, by decide, by decide +kernel⟩ ⟨Nat.le_of_ble_eq_true rfl, Nat.le_of_ble_eq_true rfl⟩) preEq rfl rfl hl.1 rfl (lv_room (Nat.le_of_ble_eq_true rfl)) dX0_make_7 ⟨by decide, by decide⟩) ?_
  refine lv_aload_n hx hb dX0_make_10 rfl (lv_at hl 0 rfl) ?_
  refine lv_iload_n hx hb dX0_make_11 rfl (lv_at hl 2 rfl) ?_
  refine lv_if_eq hx hb dX0_make_12 (tgt := 19) (by decide) (fun hc => ?_) (fun hc => ?_)
  · have hk2 : k = 2 := (hlk.resolve_right (fun h9 => h9.1 hc)).2
    refine lv_iconst (v := 2) hx hb dX0_make_19 (by decide) ?_
    refine hw_topi (y := nI k) (by rw [hk2]; decide) ?_
    exact tail20 ce rg tk ob co re rc np H locs ls (hC) hP hD hS (lv_sub hl [1, 2, 3, 0] rfl)
  · have hk2 : k = 1 := (hlk.resolve_left (fun h9 => hc h9.1)).2
    refine lv_iconst (v := 1) hx hb dX0_make_15 (by decide) ?_
    refine lv_goto hx hb dX0_make_16 (tgt := 20) (by decide) ?_
    refine hw_topi (y := nI k) (by rw [hk2]; decide) ?_
    exact tail20 ce rg tk ob co re rc np H locs ls (hC) hP hD hS (lv_sub hl [1, 2, 3, 0] rfl)

set_option maxHeartbeats 4000000 in
set_option maxRecDepth 100000 in
theorem xf_X0_make (l : Launch) (dC : Nat → ClassId) (dI : Nat → Nat → Nat) (h0 a1 a2 a3 a4 : Nat) (c1 c2 c3 c4 : ClassId) (ce : Nat → Int64) (rg : Nat → Int32) (tk ob co : Int32) (re : Nat → Int32) (rc : Int32) (np : Nat → Int32) (sz : Nat) (hl9 : l.stackTraces = false) (M : hp_S) (hW : hp_W M) (hC : hp_C M ce rg tk ob co) (j n k : Nat) (lk : Int32) (hj : j < 16) (hn : n ≤ 40) (hlk : lk = 0 ∧ k = 2 ∨ ¬ lk = 0 ∧ k = 1) (hfull : ¬ hp_tk (hp_rm M n) + (1 + n) ≤ 300) : vx_Met l yX0_make wsX0_make ({ frames := 7, cells := 1, slots := 6, locals := 134 }) (va_Pc [.ref h0, .int (nI j), .int lk, .int (nI n)] (hx_pre (dC, dI) vwCl [(c1, .long), (c2, .int), (c3, .int), (c4, .int)] [(h0, .inr (0, [.ref a1, .ref a2, .int tk, .int ob, .int co, .ref a3, .int rc, .ref a4])), (a1, .inl (c1, 300, .inr (.inl ce))), (a2, .inl (c2, 16, .inl rg)), (a3, .inl (c3, 300, .inl re)), (a4, .inl (c4, 300, .inl np))] sz)) (fun _ _ _ _ => False) (vx_X (fun _ : (Nat → Int64) × (Nat → Int32) × Int32 × Int32 × Int32 × (Nat → Int32) × Int32 × (Nat → Int32) => True) (fun E u t => (fun (E : String) (u : (Nat → Int64) × (Nat → Int32) × Int32 × Int32 × Int32 × (Nat → Int32) × Int32 × (Nat → Int32)) => E = hz_I ∧ hp_C (hp_rm M n) u.1 u.2.1 u.2.2.1 u.2.2.2.1 u.2.2.2.2.1) E u ∧ hw_B (dC, dI) vwCl [(c1, .long), (c2, .int), (c3, .int), (c4, .int)] (va_A [(h0, .inr (0, [.ref a1, .ref a2, .int tk, .int ob, .int co, .ref a3, .int rc, .ref a4])), (a1, .inl (c1, 300, .inr (.inl ce))), (a2, .inl (c2, 16, .inl rg)), (a3, .inl (c3, 300, .inl re)), (a4, .inl (c4, 300, .inl np))] sz) ((fun u : (Nat → Int64) × (Nat → Int32) × Int32 × Int32 × Int32 × (Nat → Int32) × Int32 × (Nat → Int32) => [(h0, .inr (0, [.ref a1, .ref a2, .int u.2.2.1, .int u.2.2.2.1, .int u.2.2.2.2.1, .ref a3, .int u.2.2.2.2.2.2.1, .ref a4])), (a1, .inl (c1, 300, .inr (.inl u.1))), (a2, .inl (c2, 16, .inl u.2.1)), (a3, .inl (c3, 300, .inl u.2.2.2.2.2.1)), (a4, .inl (c4, 300, .inl u.2.2.2.2.2.2.2))]) u) t) (va_A [(h0, .inr (0, [.ref a1, .ref a2, .int tk, .int ob, .int co, .ref a3, .int rc, .ref a4])), (a1, .inl (c1, 300, .inr (.inl ce))), (a2, .inl (c2, 16, .inl rg)), (a3, .inl (c3, 300, .inl re)), (a4, .inl (c4, 300, .inl np))] sz)) 1 6 (va_A [(h0, .inr (0, [.ref a1, .ref a2, .int tk, .int ob, .int co, .ref a3, .int rc, .ref a4])), (a1, .inl (c1, 300, .inr (.inl ce))), (a2, .inl (c2, 16, .inl rg)), (a3, .inl (c3, 300, .inl re)), (a4, .inl (c4, 300, .inl np))] sz) := by
  refine vx_ofW (cc := cX0_make) (maxL := 8) (ret := some .int) (by decide) rfl ?_
  intro p e s m args below meth c s₁ B hml hEx hv
  obtain ⟨hargs, hsz, hP, hK, hD0, hZ⟩ := hv
  have hx := B.exec
  have hb := B.bytes
  have hr := B.returns
  have hts : ∀ w ∈ wb, w.before _ s = true := fun w h => atoms_spec (ws := wsX0_make) B.pre w (List.mem_cons_of_mem _ h)
  have hown : s.vm.findClass RX0 = some m.cls := findClass_of_methodNamed B.named
  have hlocks := B.notSynchronized
  subst hsz
  have hD := hD0.self (sz := s.heap.size)
  generalize hAe : va_A [(h0, .inr (0, [.ref a1, .ref a2, .int tk, .int ob, .int co, .ref a3, .int rc, .ref a4])), (a1, .inl (c1, 300, .inr (.inl ce))), (a2, .inl (c2, 16, .inl rg)), (a3, .inl (c3, 300, .inl re)), (a4, .inl (c4, 300, .inl np))] s.heap.size = A at hD hZ ⊢
  have hA : ∀ q : Nat, s.heap.size ≤ q → A q := fun q h => by rw [← hAe]; exact Or.inr h
  have hS : va_S A s.heap s.heap [] := va_S.rf
  generalize hQ9 : vx_MQ below (fun _ _ _ _ => False) (vx_X (fun _ : (Nat → Int64) × (Nat → Int32) × Int32 × Int32 × Int32 × (Nat → Int32) × Int32 × (Nat → Int32) => True) (fun E u t => (fun (E : String) (u : (Nat → Int64) × (Nat → Int32) × Int32 × Int32 × Int32 × (Nat → Int32) × Int32 × (Nat → Int32)) => E = hz_I ∧ hp_C (hp_rm M n) u.1 u.2.1 u.2.2.1 u.2.2.2.1 u.2.2.2.2.1) E u ∧ hw_B (dC, dI) vwCl [(c1, .long), (c2, .int), (c3, .int), (c4, .int)] A ((fun u : (Nat → Int64) × (Nat → Int32) × Int32 × Int32 × Int32 × (Nat → Int32) × Int32 × (Nat → Int32) => [(h0, .inr (0, [.ref a1, .ref a2, .int u.2.2.1, .int u.2.2.2.1, .int u.2.2.2.2.1, .ref a3, .int u.2.2.2.2.2.2.1, .ref a4])), (a1, .inl (c1, 300, .inr (.inl u.1))), (a2, .inl (c2, 16, .inl u.2.1)), (a3, .inl (c3, 300, .inl u.2.2.2.2.2.1)), (a4, .inl (c4, 300, .inl u.2.2.2.2.2.2.2))]) u) t) A) args s 1 6 A = Q9
  have hl := lv_entry ([.ref h0, .int (nI j), .int lk, .int (nI n)]) (n := 8) (Nat.le_of_ble_eq_true rfl)
  rw [show entryFrame m args 8 = _ from (congrArg (fun z => entryFrame m z 8) hargs).trans (lg_entry_eq m [.ref h0, .int (nI j), .int lk, .int (nI n)] 8)]
  generalize (lg_sl ([.ref h0, .int (nI j), .int lk, .int (nI n)]) ++ List.replicate (8 - (lg_sl ([.ref h0, .int (nI j), .int lk, .int (nI n)])).length) Slot.unset).toArray = ls at hl ⊢
  have hl : lv_has ls 8 [(0, .ref h0), (1, .int (nI j)), (2, .int lk), (3, .int (nI n))] := hl
  obtain ⟨H, hH⟩ : ∃ H, H = s.heap := ⟨_, rfl⟩
  rw [← hH] at hP
  have hS : va_S A s.heap H [] := by rw [hH]; exact hS
  rw [← hH]
  generalize ([] : List Loc) = locs at hS ⊢
  have hk4 : k < 4 := by omega
  have tail20 : ∀ (ce : Nat → Int64) (rg : Nat → Int32) (tk : Int32) (ob : Int32) (co : Int32) (re : Nat → Int32) (rc : Int32) (np : Nat → Int32) (H : Heap) (locs : List Loc) (ls : Array Slot), (hp_C M ce rg tk ob co) → va_P (dC, dI) vwCl [(h0, .inr (0, [.ref a1, .ref a2, .int tk, .int ob, .int co, .ref a3, .int rc, .ref a4])), (a1, .inl (c1, 300, .inr (.inl ce))), (a2, .inl (c2, 16, .inl rg)), (a3, .inl (c3, 300, .inl re)), (a4, .inl (c4, 300, .inl np))] H → va_D A [(h0, .inr (0, [.ref a1, .ref a2, .int tk, .int ob, .int co, .ref a3, .int rc, .ref a4])), (a1, .inl (c1, 300, .inr (.inl ce))), (a2, .inl (c2, 16, .inl rg)), (a3, .inl (c3, 300, .inl re)), (a4, .inl (c4, 300, .inl np))] → va_S A s.heap H locs → lv_has ls 8 [(1, .int (nI j)), (2, .int lk), (3, .int (nI n)), (0, .ref h0)] → W p l e (headSpec wsX0_make ({ frames := 7, cells := 1, slots := 6, locals := 134 })).room s m args below meth c H locs 0 0 Q9 (F0 m 20 ls [.int (nI k), .ref h0]) := by
    intro ce rg tk ob co re rc np H locs ls hI hP hD hS hl
    refine lv_iload_n hx hb dX0_make_20 rfl (lv_at hl 2 rfl) ?_
    refine hx_throwsW (vx_runV (As := [.int (nI k), .int (nI n)]) (rest := []) ⟨hx, hb, hml, hown, hts⟩ (x_X0_takeCells l dC dI h0 a1 a2 a3 a4 c1 c2 c3 c4 ce rg tk ob co re rc np _ hl9 M hW hI k n hk4 hn hfull) (cwV 2 hts gw_X0_50 rfl rfl rfl ⟨rfl, by decide, by decide, by decide +kernel⟩ ⟨Nat.le_of_ble_eq_true rfl, Nat.le_of_ble_eq_true rfl⟩) ⟨hx_blind, va_recv (q0 := 0) (ci := 0) (q := (RX0, TX0, 8)) hK hP rfl rfl, hx_pay hP hK hD hS hA hZ⟩ rfl rfl hl.1 rfl (lv_room (Nat.le_of_ble_eq_true rfl)) dX0_make_21 ⟨by decide, by decide⟩) hD hS hA (fun E ce9 q9 u9 H locs hb9 hP hD hS h1 h2 h3 => ?_)
    subst hQ9
    exact vx_out (fun x hx => (hEx x hx).elim) hlocks h1 h2 h3 (fun t ht ha => ⟨u9, trivial, ⟨hb9, by rw [ht]; exact hP, va_K.moved ha hK, hD⟩, hS.F ht⟩) hS.2.2 (Nat.le_of_ble_eq_true rfl) (Nat.le_of_ble_eq_true rfl)
  refine lv_iload_n hx hb dX0_make_0 rfl (lv_at hl 1 rfl) ?_
  refine hw_callN (W.runS (As := [.int (nI j)]) (rest := []) ⟨hx, hb, hml, hown, hts⟩ (c_X0_checkRegister l (hp_ok2 hj (by decide))) (va_cwS 1 hts gw_X0_42 rfl rfl rfl ⟨by decide, by decide, by decide +kernel⟩ ⟨Nat.le_of_ble_eq_true rfl, Nat.le_of_ble_eq_true rfl⟩) preEq rfl rfl hl.1 rfl (lv_room (Nat.le_of_ble_eq_true rfl)) dX0_make_1 ⟨by decide, by decide⟩) ?_
  refine lv_iload_n hx hb dX0_make_4 rfl (lv_at hl 3 rfl) ?_
  refine lv_bipush (v := 41) hx hb dX0_make_5 (by decide) ?_
  refine hw_callN (W.runS (As := [.int (nI n), .int 41]) (rest := []) ⟨hx, hb, hml, hown, hts⟩ (c_X0_checkBelow l (hp_ok2 (n := 41) (by omega) (by decide))) (va_cwS 2 hts gw_X0_46 rfl rfl rfl ⟨by decide, by decide, by decide +kernel⟩ ⟨Nat.le_of_ble_eq_true rfl, Nat.le_of_ble_eq_true rfl⟩) preEq rfl rfl hl.1 rfl (lv_room (Nat.le_of_ble_eq_true rfl)) dX0_make_7 ⟨by decide, by decide⟩) ?_
  refine lv_aload_n hx hb dX0_make_10 rfl (lv_at hl 0 rfl) ?_
  refine lv_iload_n hx hb dX0_make_11 rfl (lv_at hl 2 rfl) ?_
  refine lv_if_eq hx hb dX0_make_12 (tgt := 19) (by decide) (fun hc => ?_) (fun hc => ?_)
  · have hk2 : k = 2 := (hlk.resolve_right (fun h9 => h9.1 hc)).2
    refine lv_iconst (v := 2) hx hb dX0_make_19 (by decide) ?_
    refine hw_topi (y := nI k) (by rw [hk2]; decide) ?_
    exact tail20 ce rg tk ob co re rc np H locs ls (hC) hP hD hS (lv_sub hl [1, 2, 3, 0] rfl)
  · have hk2 : k = 1 := (hlk.resolve_left (fun h9 => hc h9.1)).2
    refine lv_iconst (v := 1) hx hb dX0_make_15 (by decide) ?_
    refine lv_goto hx hb dX0_make_16 (tgt := 20) (by decide) ?_
    refine hw_topi (y := nI k) (by rw [hk2]; decide) ?_
    exact tail20 ce rg tk ob co re rc np H locs ls (hC) hP hD hS (lv_sub hl [1, 2, 3, 0] rfl)

set_option maxHeartbeats 4000000 in
set_option maxRecDepth 100000 in
theorem x_X0_make (l : Launch) (dC : Nat → ClassId) (dI : Nat → Nat → Nat) (h0 a1 a2 a3 a4 : Nat) (c1 c2 c3 c4 : ClassId) (ce : Nat → Int64) (rg : Nat → Int32) (tk ob co : Int32) (re : Nat → Int32) (rc : Int32) (np : Nat → Int32) (sz : Nat) (hl9 : l.stackTraces = false) (r lk n : Int32) (hbad : hp_bad r 16 ∨ hp_bad n 41) : vx_Met l yX0_make wsX0_make ({ frames := 8, cells := 1, slots := 6, locals := 131 }) (va_Pc [.ref h0, .int r, .int lk, .int n] (hx_pre (dC, dI) vwCl [(c1, .long), (c2, .int), (c3, .int), (c4, .int)] [(h0, .inr (0, [.ref a1, .ref a2, .int tk, .int ob, .int co, .ref a3, .int rc, .ref a4])), (a1, .inl (c1, 300, .inr (.inl ce))), (a2, .inl (c2, 16, .inl rg)), (a3, .inl (c3, 300, .inl re)), (a4, .inl (c4, 300, .inl np))] sz)) (fun _ _ _ _ => False) (vx_X (fun _ : Unit => True) (fun E u t => (fun (E : String) (_ : Unit) => E = hz_A) E u ∧ hw_B (dC, dI) vwCl [(c1, .long), (c2, .int), (c3, .int), (c4, .int)] (va_A [(h0, .inr (0, [.ref a1, .ref a2, .int tk, .int ob, .int co, .ref a3, .int rc, .ref a4])), (a1, .inl (c1, 300, .inr (.inl ce))), (a2, .inl (c2, 16, .inl rg)), (a3, .inl (c3, 300, .inl re)), (a4, .inl (c4, 300, .inl np))] sz) ((fun _ : Unit => [(h0, .inr (0, [.ref a1, .ref a2, .int tk, .int ob, .int co, .ref a3, .int rc, .ref a4])), (a1, .inl (c1, 300, .inr (.inl ce))), (a2, .inl (c2, 16, .inl rg)), (a3, .inl (c3, 300, .inl re)), (a4, .inl (c4, 300, .inl np))]) u) t) (va_A [(h0, .inr (0, [.ref a1, .ref a2, .int tk, .int ob, .int co, .ref a3, .int rc, .ref a4])), (a1, .inl (c1, 300, .inr (.inl ce))), (a2, .inl (c2, 16, .inl rg)), (a3, .inl (c3, 300, .inl re)), (a4, .inl (c4, 300, .inl np))] sz)) 1 6 (va_A [(h0, .inr (0, [.ref a1, .ref a2, .int tk, .int ob, .int co, .ref a3, .int rc, .ref a4])), (a1, .inl (c1, 300, .inr (.inl ce))), (a2, .inl (c2, 16, .inl rg)), (a3, .inl (c3, 300, .inl re)), (a4, .inl (c4, 300, .inl np))] sz) := by
  refine vx_ofW (cc := cX0_make) (maxL := 8) (ret := some .int) (by decide) rfl ?_
  intro p e s m args below meth c s₁ B hml hEx hv
  obtain ⟨hargs, hsz, hP, hK, hD0, hZ⟩ := hv
  have hx := B.exec
  have hb := B.bytes
  have hr := B.returns
  have hts : ∀ w ∈ wb, w.before _ s = true := fun w h => atoms_spec (ws := wsX0_make) B.pre w (List.mem_cons_of_mem _ h)
  have hown : s.vm.findClass RX0 = some m.cls := findClass_of_methodNamed B.named
  have hlocks := B.notSynchronized
  subst hsz
  have hD := hD0.self (sz := s.heap.size)
  generalize hAe : va_A [(h0, .inr (0, [.ref a1, .ref a2, .int tk, .int ob, .int co, .ref a3, .int rc, .ref a4])), (a1, .inl (c1, 300, .inr (.inl ce))), (a2, .inl (c2, 16, .inl rg)), (a3, .inl (c3, 300, .inl re)), (a4, .inl (c4, 300, .inl np))] s.heap.size = A at hD hZ ⊢
  have hA : ∀ q : Nat, s.heap.size ≤ q → A q := fun q h => by rw [← hAe]; exact Or.inr h
  have hS : va_S A s.heap s.heap [] := va_S.rf
  generalize hQ9 : vx_MQ below (fun _ _ _ _ => False) (vx_X (fun _ : Unit => True) (fun E u t => (fun (E : String) (_ : Unit) => E = hz_A) E u ∧ hw_B (dC, dI) vwCl [(c1, .long), (c2, .int), (c3, .int), (c4, .int)] A ((fun _ : Unit => [(h0, .inr (0, [.ref a1, .ref a2, .int tk, .int ob, .int co, .ref a3, .int rc, .ref a4])), (a1, .inl (c1, 300, .inr (.inl ce))), (a2, .inl (c2, 16, .inl rg)), (a3, .inl (c3, 300, .inl re)), (a4, .inl (c4, 300, .inl np))]) u) t) A) args s 1 6 A = Q9
  have hl := lv_entry ([.ref h0, .int r, .int lk, .int n]) (n := 8) (Nat.le_of_ble_eq_true rfl)
  rw [show entryFrame m args 8 = _ from (congrArg (fun z => entryFrame m z 8) hargs).trans (lg_entry_eq m [.ref h0, .int r, .int lk, .int n] 8)]
  generalize (lg_sl ([.ref h0, .int r, .int lk, .int n]) ++ List.replicate (8 - (lg_sl ([.ref h0, .int r, .int lk, .int n])).length) Slot.unset).toArray = ls at hl ⊢
  have hl : lv_has ls 8 [(0, .ref h0), (1, .int r), (2, .int lk), (3, .int n)] := hl
  obtain ⟨H, hH⟩ : ∃ H, H = s.heap := ⟨_, rfl⟩
  rw [← hH] at hP
  have hS : va_S A s.heap H [] := by rw [hH]; exact hS
  rw [← hH]
  generalize ([] : List Loc) = locs at hS ⊢
  refine lv_iload_n hx hb dX0_make_0 rfl (lv_at hl 1 rfl) ?_
  by_cases hr1 : hp_bad r 16
  · skip
    refine hx_throws (vx_runS (As := [.int r]) (rest := []) ⟨hx, hb, hml, hown, hts⟩ (x_X0_checkRegister l hl9 dC dI _ hr1) (va_cwS 1 hts gw_X0_42 rfl rfl rfl ⟨by decide, by decide, by decide +kernel⟩ ⟨Nat.le_of_ble_eq_true rfl, Nat.le_of_ble_eq_true rfl⟩) ⟨hx_blind, hx_pay hx_P0 (hK.sub (tys' := []) [] rfl) hx_D0 hS hA hZ⟩ rfl rfl hl.1 rfl (lv_room (Nat.le_of_ble_eq_true rfl)) dX0_make_1 ⟨by decide, by decide⟩) hP hS hA (fun E ce9 q9 H locs hb9 hP hS h1 h2 h3 => ?_)
    subst hQ9
    exact vx_out (fun x hx => (hEx x hx).elim) hlocks h1 h2 h3 (fun t ht ha => ⟨(), trivial, ⟨hb9, by rw [ht]; exact hP, va_K.moved ha hK, hD⟩, hS.F ht⟩) hS.2.2 (Nat.le_of_ble_eq_true rfl) (Nat.le_of_ble_eq_true rfl)
  · skip
    refine hw_callN (W.runS (As := [.int r]) (rest := []) ⟨hx, hb, hml, hown, hts⟩ (c_X0_checkRegister l hr1) (va_cwS 1 hts gw_X0_42 rfl rfl rfl ⟨by decide, by decide, by decide +kernel⟩ ⟨Nat.le_of_ble_eq_true rfl, Nat.le_of_ble_eq_true rfl⟩) preEq rfl rfl hl.1 rfl (lv_room (Nat.le_of_ble_eq_true rfl)) dX0_make_1 ⟨by decide, by decide⟩) ?_
    refine lv_iload_n hx hb dX0_make_4 rfl (lv_at hl 3 rfl) ?_
    refine lv_bipush (v := 41) hx hb dX0_make_5 (by decide) ?_
    refine hx_throws (vx_runS (As := [.int n, .int 41]) (rest := []) ⟨hx, hb, hml, hown, hts⟩ (x_X0_checkBelow l hl9 dC dI _ (hbad.resolve_left hr1)) (va_cwS 2 hts gw_X0_46 rfl rfl rfl ⟨by decide, by decide, by decide +kernel⟩ ⟨Nat.le_of_ble_eq_true rfl, Nat.le_of_ble_eq_true rfl⟩) ⟨hx_blind, hx_pay hx_P0 (hK.sub (tys' := []) [] rfl) hx_D0 hS hA hZ⟩ rfl rfl hl.1 rfl (lv_room (Nat.le_of_ble_eq_true rfl)) dX0_make_7 ⟨by decide, by decide⟩) hP hS hA (fun E ce9 q9 H locs hb9 hP hS h1 h2 h3 => ?_)
    subst hQ9
    exact vx_out (fun x hx => (hEx x hx).elim) hlocks h1 h2 h3 (fun t ht ha => ⟨(), trivial, ⟨hb9, by rw [ht]; exact hP, va_K.moved ha hK, hD⟩, hS.F ht⟩) hS.2.2 (Nat.le_of_ble_eq_true rfl) (Nat.le_of_ble_eq_true rfl)

set_option maxHeartbeats 4000000 in
set_option maxRecDepth 100000 in
theorem c_X0_weak (l : Launch) (dC : Nat → ClassId) (dI : Nat → Nat → Nat) (h0 a1 a2 a3 a4 : Nat) (c1 c2 c3 c4 : ClassId) (ce : Nat → Int64) (rg : Nat → Int32) (tk ob co : Int32) (re : Nat → Int32) (rc : Int32) (np : Nat → Int32) (sz : Nat) (M : hp_S) (hW : hp_W M) (hC : hp_C M ce rg tk ob co) (j i : Nat) (hj : j < 16) (hi : i < 16) (h0n : hp_r M i ≠ 0) (hfit : hp_tk (hp_rm M 1) + (1 + 1) ≤ 300) : Met l yX0_weak wsX0_weak ({ frames := 6, cells := 0, slots := 0, locals := 134 }) (va_Pc [.ref h0, .int (nI j), .int (nI i)] (hw_pre (dC, dI) vwCl [(c1, .long), (c2, .int), (c3, .int), (c4, .int)] [(h0, .inr (0, [.ref a1, .ref a2, .int tk, .int ob, .int co, .ref a3, .int rc, .ref a4])), (a1, .inl (c1, 300, .inr (.inl ce))), (a2, .inl (c2, 16, .inl rg)), (a3, .inl (c3, 300, .inl re)), (a4, .inl (c4, 300, .inl np))] sz)) (va_Qi (fun (r : Int32) (u : (Nat → Int64) × (Nat → Int32) × Int32 × Int32 × Int32 × (Nat → Int32) × Int32 × (Nat → Int32)) => r = nI (hp_tk (hp_rm M 1)) ∧ ∀ o, o ∉ hp_L (hp_rm M 1) → 1 ≤ o → hp_C (hp_sr (hp_sl (hp_mk (hp_rm M 1) o 3 1) o 0 (hp_r M i)) j o) u.1 u.2.1 u.2.2.1 u.2.2.2.1 u.2.2.2.2.1) (fun u t => hw_B (dC, dI) vwCl [(c1, .long), (c2, .int), (c3, .int), (c4, .int)] (va_A [(h0, .inr (0, [.ref a1, .ref a2, .int tk, .int ob, .int co, .ref a3, .int rc, .ref a4])), (a1, .inl (c1, 300, .inr (.inl ce))), (a2, .inl (c2, 16, .inl rg)), (a3, .inl (c3, 300, .inl re)), (a4, .inl (c4, 300, .inl np))] sz) ((fun u : (Nat → Int64) × (Nat → Int32) × Int32 × Int32 × Int32 × (Nat → Int32) × Int32 × (Nat → Int32) => [(h0, .inr (0, [.ref a1, .ref a2, .int u.2.2.1, .int u.2.2.2.1, .int u.2.2.2.2.1, .ref a3, .int u.2.2.2.2.2.2.1, .ref a4])), (a1, .inl (c1, 300, .inr (.inl u.1))), (a2, .inl (c2, 16, .inl u.2.1)), (a3, .inl (c3, 300, .inl u.2.2.2.2.2.1)), (a4, .inl (c4, 300, .inl u.2.2.2.2.2.2.2))]) u) t) (va_A [(h0, .inr (0, [.ref a1, .ref a2, .int tk, .int ob, .int co, .ref a3, .int rc, .ref a4])), (a1, .inl (c1, 300, .inr (.inl ce))), (a2, .inl (c2, 16, .inl rg)), (a3, .inl (c3, 300, .inl re)), (a4, .inl (c4, 300, .inl np))] sz)) 0 0 (va_A [(h0, .inr (0, [.ref a1, .ref a2, .int tk, .int ob, .int co, .ref a3, .int rc, .ref a4])), (a1, .inl (c1, 300, .inr (.inl ce))), (a2, .inl (c2, 16, .inl rg)), (a3, .inl (c3, 300, .inl re)), (a4, .inl (c4, 300, .inl np))] sz) := by
  refine Met.ofW (cc := cX0_weak) (maxL := 4) (ret := some .int) (by decide) rfl ?_
  intro p e s m args below meth c s₁ B hml hv
  obtain ⟨hargs, hsz, hP, hK, hD0⟩ := hv
  have hx := B.exec
  have hb := B.bytes
  have hr := B.returns
  have hts : ∀ w ∈ wb, w.before _ s = true := fun w h => atoms_spec (ws := wsX0_weak) B.pre w (List.mem_cons_of_mem _ h)
  have hown : s.vm.findClass RX0 = some m.cls := findClass_of_methodNamed B.named
  have hlocks := B.notSynchronized
  subst hsz
  have hD := hD0.self (sz := s.heap.size)
  generalize hAe : va_A [(h0, .inr (0, [.ref a1, .ref a2, .int tk, .int ob, .int co, .ref a3, .int rc, .ref a4])), (a1, .inl (c1, 300, .inr (.inl ce))), (a2, .inl (c2, 16, .inl rg)), (a3, .inl (c3, 300, .inl re)), (a4, .inl (c4, 300, .inl np))] s.heap.size = A at hD ⊢
  have hA : ∀ q : Nat, s.heap.size ≤ q → A q := fun q h => by rw [← hAe]; exact Or.inr h
  have hS : va_S A s.heap s.heap [] := va_S.rf
  generalize hQ9 : MQ below (va_Qi (fun (r : Int32) (u : (Nat → Int64) × (Nat → Int32) × Int32 × Int32 × Int32 × (Nat → Int32) × Int32 × (Nat → Int32)) => r = nI (hp_tk (hp_rm M 1)) ∧ ∀ o, o ∉ hp_L (hp_rm M 1) → 1 ≤ o → hp_C (hp_sr (hp_sl (hp_mk (hp_rm M 1) o 3 1) o 0 (hp_r M i)) j o) u.1 u.2.1 u.2.2.1 u.2.2.2.1 u.2.2.2.2.1) (fun u t => hw_B (dC, dI) vwCl [(c1, .long), (c2, .int), (c3, .int), (c4, .int)] A ((fun u : (Nat → Int64) × (Nat → Int32) × Int32 × Int32 × Int32 × (Nat → Int32) × Int32 × (Nat → Int32) => [(h0, .inr (0, [.ref a1, .ref a2, .int u.2.2.1, .int u.2.2.2.1, .int u.2.2.2.2.1, .ref a3, .int u.2.2.2.2.2.2.1, .ref a4])), (a1, .inl (c1, 300, .inr (.inl u.1))), (a2, .inl (c2, 16, .inl u.2.1)), (a3, .inl (c3, 300, .inl u.2.2.2.2.2.1)), (a4, .inl (c4, 300, .inl u.2.2.2.2.2.2.2))]) u) t) A) args s 0 0 A = Q9
  have hl := lv_entry ([.ref h0, .int (nI j), .int (nI i)]) (n := 4) (Nat.le_of_ble_eq_true rfl)
  rw [show entryFrame m args 4 = _ from (congrArg (fun z => entryFrame m z 4) hargs).trans (lg_entry_eq m [.ref h0, .int (nI j), .int (nI i)] 4)]
  generalize (lg_sl ([.ref h0, .int (nI j), .int (nI i)]) ++ List.replicate (4 - (lg_sl ([.ref h0, .int (nI j), .int (nI i)])).length) Slot.unset).toArray = ls at hl ⊢
  have hl : lv_has ls 4 [(0, .ref h0), (1, .int (nI j)), (2, .int (nI i))] := hl
  obtain ⟨H, hH⟩ : ∃ H, H = s.heap := ⟨_, rfl⟩
  rw [← hH] at hP
  have hS : va_S A s.heap H [] := by rw [hH]; exact hS
  rw [← hH]
  generalize ([] : List Loc) = locs at hS ⊢
  have hW1 := hp_rm_W hW 1
  have hT1 := hW1.2.2.2.2.2
  refine lv_iload_n hx hb dX0_weak_0 rfl (lv_at hl 1 rfl) ?_
  refine hw_callN (W.runS (As := [.int (nI j)]) (rest := []) ⟨hx, hb, hml, hown, hts⟩ (c_X0_checkRegister l (hp_ok2 hj (by decide))) (va_cwS 1 hts gw_X0_42 rfl rfl rfl ⟨by decide, by decide, by decide +kernel⟩ ⟨Nat.le_of_ble_eq_true rfl, Nat.le_of_ble_eq_true rfl⟩) preEq rfl rfl hl.1 rfl (lv_room (Nat.le_of_ble_eq_true rfl)) dX0_weak_1 ⟨by decide, by decide⟩) ?_
  refine lv_iload_n hx hb dX0_weak_4 rfl (lv_at hl 2 rfl) ?_
  refine hw_callN (W.runS (As := [.int (nI i)]) (rest := []) ⟨hx, hb, hml, hown, hts⟩ (c_X0_checkRegister l (hp_ok2 hi (by decide))) (va_cwS 1 hts gw_X0_42 rfl rfl rfl ⟨by decide, by decide, by decide +kernel⟩ ⟨Nat.le_of_ble_eq_true rfl, Nat.le_of_ble_eq_true rfl⟩) preEq rfl rfl hl.1 rfl (lv_room (Nat.le_of_ble_eq_true rfl)) dX0_weak_5 ⟨by decide, by decide⟩) ?_
  refine lv_aload_n hx hb dX0_weak_8 rfl (lv_at hl 0 rfl) ?_
  refine va_get (D := (dC, dI)) (ci := 0) (v := .ref a2) (C := RX0) (T := TX0) (N := 8) hx hb hts inX0 hown hK hP 0 rfl rfl 1 (by decide) (hts _ bw_fl_X0_13) (fun _ h9 => h9) rfl dX0_weak_9 ?_
  refine lv_iload_n hx hb dX0_weak_12 rfl (lv_at hl 2 rfl) ?_
  refine hw_iald (j := i) hx hb hK hP 2 1 rfl rfl (rfl) (hi) (by decide) dX0_weak_13 ?_
  refine hw_callN (W.runS (As := [.int (rg i)]) (rest := []) ⟨hx, hb, hml, hown, hts⟩ (c_X0_checkNotNull l (fun h9 => h0n ((hp_null hW (hW.2.2.2.1 i hi)).mp ((hC.2.2.2.1 i hi).symm.trans h9)))) (va_cwS 1 hts gw_X0_56 rfl rfl rfl ⟨by decide, by decide, by decide +kernel⟩ ⟨Nat.le_of_ble_eq_true rfl, Nat.le_of_ble_eq_true rfl⟩) preEq rfl rfl hl.1 rfl (lv_room (Nat.le_of_ble_eq_true rfl)) dX0_weak_14 ⟨by decide, by decide⟩) ?_
  refine lv_aload_n hx hb dX0_weak_17 rfl (lv_at hl 0 rfl) ?_
  refine lv_iconst (v := 3) hx hb dX0_weak_18 (by decide) ?_
  refine lv_iconst (v := 1) hx hb dX0_weak_19 (by decide) ?_
  refine W.eq (g2 := F0 m 20 ls [.int (nI 1), .int (nI 3), .ref h0]) rfl ?_
  refine hw_calli (va_runV (As := [.int (nI 3), .int (nI 1)]) (rest := []) ⟨hx, hb, hml, hown, hts⟩ (c_X0_takeCells l dC dI h0 a1 a2 a3 a4 c1 c2 c3 c4 ce rg tk ob co re rc np _ M hW hC 3 1 (by decide) (by decide) hfit) (cwV 2 hts gw_X0_50 rfl rfl rfl ⟨rfl, by decide, by decide, by decide +kernel⟩ ⟨Nat.le_of_ble_eq_true rfl, Nat.le_of_ble_eq_true rfl⟩) ⟨hw_blind, va_recv (q0 := 0) (ci := 0) (q := (RX0, TX0, 8)) hK hP rfl rfl, hw_pay hP hK hD⟩ rfl rfl hl.1 rfl (lv_room (Nat.le_of_ble_eq_true rfl)) dX0_weak_20 ⟨by decide, by decide⟩) hD hS hA (fun r9 u9 H locs hw hP hD hS => ?_)
  obtain ⟨ce, rg, tk, ob, co, re, rc, np⟩ := u9
  have hP : va_P (dC, dI) vwCl [(h0, .inr (0, [.ref a1, .ref a2, .int tk, .int ob, .int co, .ref a3, .int rc, .ref a4])), (a1, .inl (c1, 300, .inr (.inl ce))), (a2, .inl (c2, 16, .inl rg)), (a3, .inl (c3, 300, .inl re)), (a4, .inl (c4, 300, .inl np))] H := hP
  have hD : va_D A [(h0, .inr (0, [.ref a1, .ref a2, .int tk, .int ob, .int co, .ref a3, .int rc, .ref a4])), (a1, .inl (c1, 300, .inr (.inl ce))), (a2, .inl (c2, 16, .inl rg)), (a3, .inl (c3, 300, .inl re)), (a4, .inl (c4, 300, .inl np))] := hD
  obtain ⟨hr9, ce1, tk1, ob1, hC1, hce, htk, hob⟩ := hw
  dsimp only at hce htk hob hC1
  refine hw_topi (y := nI (hp_tk (hp_rm M 1))) (hr9) ?_
  refine lv_istore_n hx hb dX0_weak_23 rfl hl (by decide) rfl (fun ls hl => ?_)
  have hl : lv_has ls 4 [(3, .int (nI (hp_tk (hp_rm M 1)))), (0, .ref h0), (1, .int (nI j)), (2, .int (nI i))] := hl
  refine lv_aload_n hx hb dX0_weak_24 rfl (lv_at hl 1 rfl) ?_
  refine va_get (D := (dC, dI)) (ci := 0) (v := .ref a1) (C := RX0) (T := TX0) (N := 8) hx hb hts inX0 hown hK hP 0 rfl rfl 0 (by decide) (hts _ bw_fl_X0_9) (fun _ h9 => h9) rfl dX0_weak_25 ?_
  refine lv_iload_n hx hb dX0_weak_28 rfl (lv_at hl 0 rfl) ?_
  refine lv_iconst (v := 1) hx hb dX0_weak_29 (by decide) ?_
  refine lv_iadd hx hb dX0_weak_30 ?_
  refine lv_aload_n hx hb dX0_weak_31 rfl (lv_at hl 1 rfl) ?_
  refine va_get (D := (dC, dI)) (ci := 0) (v := .ref a2) (C := RX0) (T := TX0) (N := 8) hx hb hts inX0 hown hK hP 0 rfl rfl 1 (by decide) (hts _ bw_fl_X0_13) (fun _ h9 => h9) rfl dX0_weak_32 ?_
  refine lv_iload_n hx hb dX0_weak_35 rfl (lv_at hl 3 rfl) ?_
  refine hw_iald (j := i) hx hb hK hP 2 1 rfl rfl (rfl) (hi) (by decide) dX0_weak_36 ?_
  refine hw_topi (y := hp_e (hp_rm M 1) (hp_r M i)) (by have h9 := hC1.2.2.2.1 i hi; rw [hp_rm_r] at h9; exact h9) ?_
  refine lv_i2l hx hb dX0_weak_37 rfl ?_
  refine hw_last (j := hp_tk (hp_rm M 1) + 1) hx hb hK hP hD hS 1 0 rfl rfl (nI_1 _) (by omega) (by decide) dX0_weak_38 (fun H locs hP hD hS => ?_)
  have hP : va_P (dC, dI) vwCl [(h0, .inr (0, [.ref a1, .ref a2, .int tk, .int ob, .int co, .ref a3, .int rc, .ref a4])), (a1, .inl (c1, 300, .inr (.inl (vp_updL ce (hp_tk (hp_rm M 1) + 1) ((hp_e (hp_rm M 1) (hp_r M i)).toInt64))))), (a2, .inl (c2, 16, .inl rg)), (a3, .inl (c3, 300, .inl re)), (a4, .inl (c4, 300, .inl np))] H := hP
  have hD : va_D A [(h0, .inr (0, [.ref a1, .ref a2, .int tk, .int ob, .int co, .ref a3, .int rc, .ref a4])), (a1, .inl (c1, 300, .inr (.inl (vp_updL ce (hp_tk (hp_rm M 1) + 1) ((hp_e (hp_rm M 1) (hp_r M i)).toInt64))))), (a2, .inl (c2, 16, .inl rg)), (a3, .inl (c3, 300, .inl re)), (a4, .inl (c4, 300, .inl np))] := hD
  refine lv_aload_n hx hb dX0_weak_39 rfl (lv_at hl 1 rfl) ?_
  refine va_get (D := (dC, dI)) (ci := 0) (v := .ref a2) (C := RX0) (T := TX0) (N := 8) hx hb hts inX0 hown hK hP 0 rfl rfl 1 (by decide) (hts _ bw_fl_X0_13) (fun _ h9 => h9) rfl dX0_weak_40 ?_
  refine lv_iload_n hx hb dX0_weak_43 rfl (lv_at hl 2 rfl) ?_
  refine lv_iload_n hx hb dX0_weak_44 rfl (lv_at hl 0 rfl) ?_
  refine hw_iast (j := j) hx hb hK hP hD hS 2 1 rfl rfl (rfl) (hj) (by decide) dX0_weak_45 (fun H locs hP hD hS => ?_)
  have hP : va_P (dC, dI) vwCl [(h0, .inr (0, [.ref a1, .ref a2, .int tk, .int ob, .int co, .ref a3, .int rc, .ref a4])), (a1, .inl (c1, 300, .inr (.inl (vp_updL ce (hp_tk (hp_rm M 1) + 1) ((hp_e (hp_rm M 1) (hp_r M i)).toInt64))))), (a2, .inl (c2, 16, .inl (upd rg j (nI (hp_tk (hp_rm M 1)))))), (a3, .inl (c3, 300, .inl re)), (a4, .inl (c4, 300, .inl np))] H := hP
  have hD : va_D A [(h0, .inr (0, [.ref a1, .ref a2, .int tk, .int ob, .int co, .ref a3, .int rc, .ref a4])), (a1, .inl (c1, 300, .inr (.inl (vp_updL ce (hp_tk (hp_rm M 1) + 1) ((hp_e (hp_rm M 1) (hp_r M i)).toInt64))))), (a2, .inl (c2, 16, .inl (upd rg j (nI (hp_tk (hp_rm M 1)))))), (a3, .inl (c3, 300, .inl re)), (a4, .inl (c4, 300, .inl np))] := hD
  refine lv_iload_n hx hb dX0_weak_46 rfl (lv_at hl 0 rfl) ?_
  subst hQ9
  exact W.iret (v := nI (hp_tk (hp_rm M 1))) hx hb hr (fun t ht hWm => ⟨⟨nI (hp_tk (hp_rm M 1)), ((vp_updL ce (hp_tk (hp_rm M 1) + 1) ((hp_e (hp_rm M 1) (hp_r M i)).toInt64)), (upd rg j (nI (hp_tk (hp_rm M 1)))), tk, ob, co, re, rc, np), rfl, ⟨rfl, fun o ho h1 => by rw [htk, hob, hce]; exact hp_wk_done hW1 hC1 (hp_r M i) (by have h9 := hW1.2.2.2.1 i hi; rw [hp_rm_r] at h9; exact h9) o ho h1⟩, by rw [ht]; exact hP, va_K.moved hWm.alike hK, hD⟩, hS.F ht⟩) hS.2.2 dX0_weak_47

set_option maxHeartbeats 4000000 in
set_option maxRecDepth 100000 in
theorem xf_X0_weak (l : Launch) (dC : Nat → ClassId) (dI : Nat → Nat → Nat) (h0 a1 a2 a3 a4 : Nat) (c1 c2 c3 c4 : ClassId) (ce : Nat → Int64) (rg : Nat → Int32) (tk ob co : Int32) (re : Nat → Int32) (rc : Int32) (np : Nat → Int32) (sz : Nat) (hl9 : l.stackTraces = false) (M : hp_S) (hW : hp_W M) (hC : hp_C M ce rg tk ob co) (j i : Nat) (hj : j < 16) (hi : i < 16) (h0n : hp_r M i ≠ 0) (hfull : ¬ hp_tk (hp_rm M 1) + (1 + 1) ≤ 300) : vx_Met l yX0_weak wsX0_weak ({ frames := 7, cells := 1, slots := 6, locals := 134 }) (va_Pc [.ref h0, .int (nI j), .int (nI i)] (hx_pre (dC, dI) vwCl [(c1, .long), (c2, .int), (c3, .int), (c4, .int)] [(h0, .inr (0, [.ref a1, .ref a2, .int tk, .int ob, .int co, .ref a3, .int rc, .ref a4])), (a1, .inl (c1, 300, .inr (.inl ce))), (a2, .inl (c2, 16, .inl rg)), (a3, .inl (c3, 300, .inl re)), (a4, .inl (c4, 300, .inl np))] sz)) (fun _ _ _ _ => False) (vx_X (fun _ : (Nat → Int64) × (Nat → Int32) × Int32 × Int32 × Int32 × (Nat → Int32) × Int32 × (Nat → Int32) => True) (fun E u t => (fun (E : String) (u : (Nat → Int64) × (Nat → Int32) × Int32 × Int32 × Int32 × (Nat → Int32) × Int32 × (Nat → Int32)) => E = hz_I ∧ hp_C (hp_rm M 1) u.1 u.2.1 u.2.2.1 u.2.2.2.1 u.2.2.2.2.1) E u ∧ hw_B (dC, dI) vwCl [(c1, .long), (c2, .int), (c3, .int), (c4, .int)] (va_A [(h0, .inr (0, [.ref a1, .ref a2, .int tk, .int ob, .int co, .ref a3, .int rc, .ref a4])), (a1, .inl (c1, 300, .inr (.inl ce))), (a2, .inl (c2, 16, .inl rg)), (a3, .inl (c3, 300, .inl re)), (a4, .inl (c4, 300, .inl np))] sz) ((fun u : (Nat → Int64) × (Nat → Int32) × Int32 × Int32 × Int32 × (Nat → Int32) × Int32 × (Nat → Int32) => [(h0, .inr (0, [.ref a1, .ref a2, .int u.2.2.1, .int u.2.2.2.1, .int u.2.2.2.2.1, .ref a3, .int u.2.2.2.2.2.2.1, .ref a4])), (a1, .inl (c1, 300, .inr (.inl u.1))), (a2, .inl (c2, 16, .inl u.2.1)), (a3, .inl (c3, 300, .inl u.2.2.2.2.2.1)), (a4, .inl (c4, 300, .inl u.2.2.2.2.2.2.2))]) u) t) (va_A [(h0, .inr (0, [.ref a1, .ref a2, .int tk, .int ob, .int co, .ref a3, .int rc, .ref a4])), (a1, .inl (c1, 300, .inr (.inl ce))), (a2, .inl (c2, 16, .inl rg)), (a3, .inl (c3, 300, .inl re)), (a4, .inl (c4, 300, .inl np))] sz)) 1 6 (va_A [(h0, .inr (0, [.ref a1, .ref a2, .int tk, .int ob, .int co, .ref a3, .int rc, .ref a4])), (a1, .inl (c1, 300, .inr (.inl ce))), (a2, .inl (c2, 16, .inl rg)), (a3, .inl (c3, 300, .inl re)), (a4, .inl (c4, 300, .inl np))] sz) := by
  refine vx_ofW (cc := cX0_weak) (maxL := 4) (ret := some .int) (by decide) rfl ?_
  intro p e s m args below meth c s₁ B hml hEx hv
  obtain ⟨hargs, hsz, hP, hK, hD0, hZ⟩ := hv
  have hx := B.exec
  have hb := B.bytes
  have hr := B.returns
  have hts : ∀ w ∈ wb, w.before _ s = true := fun w h => atoms_spec (ws := wsX0_weak) B.pre w (List.mem_cons_of_mem _ h)
  have hown : s.vm.findClass RX0 = some m.cls := findClass_of_methodNamed B.named
  have hlocks := B.notSynchronized
  subst hsz
  have hD := hD0.self (sz := s.heap.size)
  generalize hAe : va_A [(h0, .inr (0, [.ref a1, .ref a2, .int tk, .int ob, .int co, .ref a3, .int rc, .ref a4])), (a1, .inl (c1, 300, .inr (.inl ce))), (a2, .inl (c2, 16, .inl rg)), (a3, .inl (c3, 300, .inl re)), (a4, .inl (c4, 300, .inl np))] s.heap.size = A at hD hZ ⊢
  have hA : ∀ q : Nat, s.heap.size ≤ q → A q := fun q h => by rw [← hAe]; exact Or.inr h
  have hS : va_S A s.heap s.heap [] := va_S.rf
  generalize hQ9 : vx_MQ below (fun _ _ _ _ => False) (vx_X (fun _ : (Nat → Int64) × (Nat → Int32) × Int32 × Int32 × Int32 × (Nat → Int32) × Int32 × (Nat → Int32) => True) (fun E u t => (fun (E : String) (u : (Nat → Int64) × (Nat → Int32) × Int32 × Int32 × Int32 × (Nat → Int32) × Int32 × (Nat → Int32)) => E = hz_I ∧ hp_C (hp_rm M 1) u.1 u.2.1 u.2.2.1 u.2.2.2.1 u.2.2.2.2.1) E u ∧ hw_B (dC, dI) vwCl [(c1, .long), (c2, .int), (c3, .int), (c4, .int)] A ((fun u : (Nat → Int64) × (Nat → Int32) × Int32 × Int32 × Int32 × (Nat → Int32) × Int32 × (Nat → Int32) => [(h0, .inr (0, [.ref a1, .ref a2, .int u.2.2.1, .int u.2.2.2.1, .int u.2.2.2.2.1, .ref a3, .int u.2.2.2.2.2.2.1, .ref a4])), (a1, .inl (c1, 300, .inr (.inl u.1))), (a2, .inl (c2, 16, .inl u.2.1)), (a3, .inl (c3, 300, .inl u.2.2.2.2.2.1)), (a4, .inl (c4, 300, .inl u.2.2.2.2.2.2.2))]) u) t) A) args s 1 6 A = Q9
  have hl := lv_entry ([.ref h0, .int (nI j), .int (nI i)]) (n := 4) (Nat.le_of_ble_eq_true rfl)
  rw [show entryFrame m args 4 = _ from (congrArg (fun z => entryFrame m z 4) hargs).trans (lg_entry_eq m [.ref h0, .int (nI j), .int (nI i)] 4)]
  generalize (lg_sl ([.ref h0, .int (nI j), .int (nI i)]) ++ List.replicate (4 - (lg_sl ([.ref h0, .int (nI j), .int (nI i)])).length) Slot.unset).toArray = ls at hl ⊢
  have hl : lv_has ls 4 [(0, .ref h0), (1, .int (nI j)), (2, .int (nI i))] := hl
  obtain ⟨H, hH⟩ : ∃ H, H = s.heap := ⟨_, rfl⟩
  rw [← hH] at hP
  have hS : va_S A s.heap H [] := by rw [hH]; exact hS
  rw [← hH]
  generalize ([] : List Loc) = locs at hS ⊢
  refine lv_iload_n hx hb dX0_weak_0 rfl (lv_at hl 1 rfl) ?_
  refine hw_callN (W.runS (As := [.int (nI j)]) (rest := []) ⟨hx, hb, hml, hown, hts⟩ (c_X0_checkRegister l (hp_ok2 hj (by decide))) (va_cwS 1 hts gw_X0_42 rfl rfl rfl ⟨by decide, by decide, by decide +kernel⟩ ⟨Nat.le_of_ble_eq_true rfl, Nat.le_of_ble_eq_true rfl⟩) preEq rfl rfl hl.1 rfl (lv_room (Nat.le_of_ble_eq_true rfl)) dX0_weak_1 ⟨by decide, by decide⟩) ?_
  refine lv_iload_n hx hb dX0_weak_4 rfl (lv_at hl 2 rfl) ?_
  refine hw_callN (W.runS (As := [.int (nI i)]) (rest := []) ⟨hx, hb, hml, hown, hts⟩ (c_X0_checkRegister l (hp_ok2 hi (by decide))) (va_cwS 1 hts gw_X0_42 rfl rfl rfl ⟨by decide, by decide, by decide +kernel⟩ ⟨Nat.le_of_ble_eq_true rfl, Nat.le_of_ble_eq_true rfl⟩) preEq rfl rfl hl.1 rfl (lv_room (Nat.le_of_ble_eq_true rfl)) dX0_weak_5 ⟨by decide, by decide⟩) ?_
  refine lv_aload_n hx hb dX0_weak_8 rfl (lv_at hl 0 rfl) ?_
  refine va_get (D := (dC, dI)) (ci := 0) (v := .ref a2) (C := RX0) (T := TX0) (N := 8) hx hb hts inX0 hown hK hP 0 rfl rfl 1 (by decide) (hts _ bw_fl_X0_13) (fun _ h9 => h9) rfl dX0_weak_9 ?_
  refine lv_iload_n hx hb dX0_weak_12 rfl (lv_at hl 2 rfl) ?_
  refine hw_iald (j := i) hx hb hK hP 2 1 rfl rfl (rfl) (hi) (by decide) dX0_weak_13 ?_
  refine hw_callN (W.runS (As := [.int (rg i)]) (rest := []) ⟨hx, hb, hml, hown, hts⟩ (c_X0_checkNotNull l (fun h9 => h0n ((hp_null hW (hW.2.2.2.1 i hi)).mp ((hC.2.2.2.1 i hi).symm.trans h9)))) (va_cwS 1 hts gw_X0_56 rfl rfl rfl ⟨by decide, by decide, by decide +kernel⟩ ⟨Nat.le_of_ble_eq_true rfl, Nat.le_of_ble_eq_true rfl⟩) preEq rfl rfl hl.1 rfl (lv_room (Nat.le_of_ble_eq_true rfl)) dX0_weak_14 ⟨by decide, by decide⟩) ?_
  refine lv_aload_n hx hb dX0_weak_17 rfl (lv_at hl 0 rfl) ?_
  refine lv_iconst (v := 3) hx hb dX0_weak_18 (by decide) ?_
  refine lv_iconst (v := 1) hx hb dX0_weak_19 (by decide) ?_
  refine W.eq (g2 := F0 m 20 ls [.int (nI 1), .int (nI 3), .ref h0]) rfl ?_
  refine hx_throwsW (vx_runV (As := [.int (nI 3), .int (nI 1)]) (rest := []) ⟨hx, hb, hml, hown, hts⟩ (x_X0_takeCells l dC dI h0 a1 a2 a3 a4 c1 c2 c3 c4 ce rg tk ob co re rc np _ hl9 M hW hC 3 1 (by decide) (by decide) hfull) (cwV 2 hts gw_X0_50 rfl rfl rfl ⟨rfl, by decide, by decide, by decide +kernel⟩ ⟨Nat.le_of_ble_eq_true rfl, Nat.le_of_ble_eq_true rfl⟩) ⟨hx_blind, va_recv (q0 := 0) (ci := 0) (q := (RX0, TX0, 8)) hK hP rfl rfl, hx_pay hP hK hD hS hA hZ⟩ rfl rfl hl.1 rfl (lv_room (Nat.le_of_ble_eq_true rfl)) dX0_weak_20 ⟨by decide, by decide⟩) hD hS hA (fun E ce9 q9 u9 H locs hb9 hP hD hS h1 h2 h3 => ?_)
  subst hQ9
  exact vx_out (fun x hx => (hEx x hx).elim) hlocks h1 h2 h3 (fun t ht ha => ⟨u9, trivial, ⟨hb9, by rw [ht]; exact hP, va_K.moved ha hK, hD⟩, hS.F ht⟩) hS.2.2 (Nat.le_of_ble_eq_true rfl) (Nat.le_of_ble_eq_true rfl)

set_option maxHeartbeats 4000000 in
set_option maxRecDepth 100000 in
theorem x_X0_weak (l : Launch) (dC : Nat → ClassId) (dI : Nat → Nat → Nat) (h0 a1 a2 a3 a4 : Nat) (c1 c2 c3 c4 : ClassId) (ce : Nat → Int64) (rg : Nat → Int32) (tk ob co : Int32) (re : Nat → Int32) (rc : Int32) (np : Nat → Int32) (sz : Nat) (hl9 : l.stackTraces = false) (M : hp_S) (hW : hp_W M) (hC : hp_C M ce rg tk ob co) (r y : Int32) (hbad : hp_bad r 16 ∨ hp_bad y 16 ∨ hp_at M y = 0) : vx_Met l yX0_weak wsX0_weak ({ frames := 8, cells := 1, slots := 6, locals := 131 }) (va_Pc [.ref h0, .int r, .int y] (hx_pre (dC, dI) vwCl [(c1, .long), (c2, .int), (c3, .int), (c4, .int)] [(h0, .inr (0, [.ref a1, .ref a2, .int tk, .int ob, .int co, .ref a3, .int rc, .ref a4])), (a1, .inl (c1, 300, .inr (.inl ce))), (a2, .inl (c2, 16, .inl rg)), (a3, .inl (c3, 300, .inl re)), (a4, .inl (c4, 300, .inl np))] sz)) (fun _ _ _ _ => False) (vx_X (fun _ : Unit => True) (fun E u t => (fun (E : String) (_ : Unit) => (E = hz_A ∧ (hp_bad r 16 ∨ hp_bad y 16)) ∨ (E = hz_N ∧ ¬ (hp_bad r 16 ∨ hp_bad y 16))) E u ∧ hw_B (dC, dI) vwCl [(c1, .long), (c2, .int), (c3, .int), (c4, .int)] (va_A [(h0, .inr (0, [.ref a1, .ref a2, .int tk, .int ob, .int co, .ref a3, .int rc, .ref a4])), (a1, .inl (c1, 300, .inr (.inl ce))), (a2, .inl (c2, 16, .inl rg)), (a3, .inl (c3, 300, .inl re)), (a4, .inl (c4, 300, .inl np))] sz) ((fun _ : Unit => [(h0, .inr (0, [.ref a1, .ref a2, .int tk, .int ob, .int co, .ref a3, .int rc, .ref a4])), (a1, .inl (c1, 300, .inr (.inl ce))), (a2, .inl (c2, 16, .inl rg)), (a3, .inl (c3, 300, .inl re)), (a4, .inl (c4, 300, .inl np))]) u) t) (va_A [(h0, .inr (0, [.ref a1, .ref a2, .int tk, .int ob, .int co, .ref a3, .int rc, .ref a4])), (a1, .inl (c1, 300, .inr (.inl ce))), (a2, .inl (c2, 16, .inl rg)), (a3, .inl (c3, 300, .inl re)), (a4, .inl (c4, 300, .inl np))] sz)) 1 6 (va_A [(h0, .inr (0, [.ref a1, .ref a2, .int tk, .int ob, .int co, .ref a3, .int rc, .ref a4])), (a1, .inl (c1, 300, .inr (.inl ce))), (a2, .inl (c2, 16, .inl rg)), (a3, .inl (c3, 300, .inl re)), (a4, .inl (c4, 300, .inl np))] sz) := by
  refine vx_ofW (cc := cX0_weak) (maxL := 4) (ret := some .int) (by decide) rfl ?_
  intro p e s m args below meth c s₁ B hml hEx hv
  obtain ⟨hargs, hsz, hP, hK, hD0, hZ⟩ := hv
  have hx := B.exec
  have hb := B.bytes
  have hr := B.returns
  have hts : ∀ w ∈ wb, w.before _ s = true := fun w h => atoms_spec (ws := wsX0_weak) B.pre w (List.mem_cons_of_mem _ h)
  have hown : s.vm.findClass RX0 = some m.cls := findClass_of_methodNamed B.named
  have hlocks := B.notSynchronized
  subst hsz
  have hD := hD0.self (sz := s.heap.size)
  generalize hAe : va_A [(h0, .inr (0, [.ref a1, .ref a2, .int tk, .int ob, .int co, .ref a3, .int rc, .ref a4])), (a1, .inl (c1, 300, .inr (.inl ce))), (a2, .inl (c2, 16, .inl rg)), (a3, .inl (c3, 300, .inl re)), (a4, .inl (c4, 300, .inl np))] s.heap.size = A at hD hZ ⊢
  have hA : ∀ q : Nat, s.heap.size ≤ q → A q := fun q h => by rw [← hAe]; exact Or.inr h
  have hS : va_S A s.heap s.heap [] := va_S.rf
  generalize hQ9 : vx_MQ below (fun _ _ _ _ => False) (vx_X (fun _ : Unit => True) (fun E u t => (fun (E : String) (_ : Unit) => (E = hz_A ∧ (hp_bad r 16 ∨ hp_bad y 16)) ∨ (E = hz_N ∧ ¬ (hp_bad r 16 ∨ hp_bad y 16))) E u ∧ hw_B (dC, dI) vwCl [(c1, .long), (c2, .int), (c3, .int), (c4, .int)] A ((fun _ : Unit => [(h0, .inr (0, [.ref a1, .ref a2, .int tk, .int ob, .int co, .ref a3, .int rc, .ref a4])), (a1, .inl (c1, 300, .inr (.inl ce))), (a2, .inl (c2, 16, .inl rg)), (a3, .inl (c3, 300, .inl re)), (a4, .inl (c4, 300, .inl np))]) u) t) A) args s 1 6 A = Q9
  have hl := lv_entry ([.ref h0, .int r, .int y]) (n := 4) (Nat.le_of_ble_eq_true rfl)
  rw [show entryFrame m args 4 = _ from (congrArg (fun z => entryFrame m z 4) hargs).trans (lg_entry_eq m [.ref h0, .int r, .int y] 4)]
  generalize (lg_sl ([.ref h0, .int r, .int y]) ++ List.replicate (4 - (lg_sl ([.ref h0, .int r, .int y])).length) Slot.unset).toArray = ls at hl ⊢
  have hl : lv_has ls 4 [(0, .ref h0), (1, .int r), (2, .int y)] := hl
  obtain ⟨H, hH⟩ : ∃ H, H = s.heap := ⟨_, rfl⟩
  rw [← hH] at hP
  have hS : va_S A s.heap H [] := by rw [hH]; exact hS
  rw [← hH]
  generalize ([] : List Loc) = locs at hS ⊢
  refine lv_iload_n hx hb dX0_weak_0 rfl (lv_at hl 1 rfl) ?_
  by_cases hr1 : hp_bad r 16
  · skip
    refine hx_throws (vx_runS (As := [.int r]) (rest := []) ⟨hx, hb, hml, hown, hts⟩ (x_X0_checkRegister l hl9 dC dI _ hr1) (va_cwS 1 hts gw_X0_42 rfl rfl rfl ⟨by decide, by decide, by decide +kernel⟩ ⟨Nat.le_of_ble_eq_true rfl, Nat.le_of_ble_eq_true rfl⟩) ⟨hx_blind, hx_pay hx_P0 (hK.sub (tys' := []) [] rfl) hx_D0 hS hA hZ⟩ rfl rfl hl.1 rfl (lv_room (Nat.le_of_ble_eq_true rfl)) dX0_weak_1 ⟨by decide, by decide⟩) hP hS hA (fun E ce9 q9 H locs hb9 hP hS h1 h2 h3 => ?_)
    subst hQ9
    exact vx_out (fun x hx => (hEx x hx).elim) hlocks h1 h2 h3 (fun t ht ha => ⟨(), trivial, ⟨Or.inl ⟨hb9, Or.inl hr1⟩, by rw [ht]; exact hP, va_K.moved ha hK, hD⟩, hS.F ht⟩) hS.2.2 (Nat.le_of_ble_eq_true rfl) (Nat.le_of_ble_eq_true rfl)
  · skip
    refine hw_callN (W.runS (As := [.int r]) (rest := []) ⟨hx, hb, hml, hown, hts⟩ (c_X0_checkRegister l hr1) (va_cwS 1 hts gw_X0_42 rfl rfl rfl ⟨by decide, by decide, by decide +kernel⟩ ⟨Nat.le_of_ble_eq_true rfl, Nat.le_of_ble_eq_true rfl⟩) preEq rfl rfl hl.1 rfl (lv_room (Nat.le_of_ble_eq_true rfl)) dX0_weak_1 ⟨by decide, by decide⟩) ?_
    refine lv_iload_n hx hb dX0_weak_4 rfl (lv_at hl 2 rfl) ?_
    by_cases ht1 : hp_bad y 16
    · skip
      refine hx_throws (vx_runS (As := [.int y]) (rest := []) ⟨hx, hb, hml, hown, hts⟩ (x_X0_checkRegister l hl9 dC dI _ ht1) (va_cwS 1 hts gw_X0_42 rfl rfl rfl ⟨by decide, by decide, by decide +kernel⟩ ⟨Nat.le_of_ble_eq_true rfl, Nat.le_of_ble_eq_true rfl⟩) ⟨hx_blind, hx_pay hx_P0 (hK.sub (tys' := []) [] rfl) hx_D0 hS hA hZ⟩ rfl rfl hl.1 rfl (lv_room (Nat.le_of_ble_eq_true rfl)) dX0_weak_5 ⟨by decide, by decide⟩) hP hS hA (fun E ce9 q9 H locs hb9 hP hS h1 h2 h3 => ?_)
      subst hQ9
      exact vx_out (fun x hx => (hEx x hx).elim) hlocks h1 h2 h3 (fun t ht ha => ⟨(), trivial, ⟨Or.inl ⟨hb9, Or.inr ht1⟩, by rw [ht]; exact hP, va_K.moved ha hK, hD⟩, hS.F ht⟩) hS.2.2 (Nat.le_of_ble_eq_true rfl) (Nat.le_of_ble_eq_true rfl)
    · skip
      refine hw_callN (W.runS (As := [.int y]) (rest := []) ⟨hx, hb, hml, hown, hts⟩ (c_X0_checkRegister l ht1) (va_cwS 1 hts gw_X0_42 rfl rfl rfl ⟨by decide, by decide, by decide +kernel⟩ ⟨Nat.le_of_ble_eq_true rfl, Nat.le_of_ble_eq_true rfl⟩) preEq rfl rfl hl.1 rfl (lv_room (Nat.le_of_ble_eq_true rfl)) dX0_weak_5 ⟨by decide, by decide⟩) ?_
      have hnb : ¬ (hp_bad r 16 ∨ hp_bad y 16) := fun h9 => h9.elim hr1 ht1
      have hat := (hbad.resolve_left hr1).resolve_left ht1
      obtain ⟨i, hi, hti⟩ := hp_ok' ht1
      rw [hti, hp_at_n hi] at hat
      refine lv_aload_n hx hb dX0_weak_8 rfl (lv_at hl 0 rfl) ?_
      refine va_get (D := (dC, dI)) (ci := 0) (v := .ref a2) (C := RX0) (T := TX0) (N := 8) hx hb hts inX0 hown hK hP 0 rfl rfl 1 (by decide) (hts _ bw_fl_X0_13) (fun _ h9 => h9) rfl dX0_weak_9 ?_
      refine lv_iload_n hx hb dX0_weak_12 rfl (lv_at hl 2 rfl) ?_
      refine hw_iald (j := i) hx hb hK hP 2 1 rfl rfl (hti) (hi) (by decide) dX0_weak_13 ?_
      refine hx_throws (vx_runS (As := [.int (rg i)]) (rest := []) ⟨hx, hb, hml, hown, hts⟩ (x_X0_checkNotNull l hl9 dC dI _ ((hC.2.2.2.1 i hi).trans (by rw [hat]; exact hp_e0 M))) (va_cwS 1 hts gw_X0_56 rfl rfl rfl ⟨by decide, by decide, by decide +kernel⟩ ⟨Nat.le_of_ble_eq_true rfl, Nat.le_of_ble_eq_true rfl⟩) ⟨hx_blind, hx_pay hx_P0 (hK.sub (tys' := []) [] rfl) hx_D0 hS hA hZ⟩ rfl rfl hl.1 rfl (lv_room (Nat.le_of_ble_eq_true rfl)) dX0_weak_14 ⟨by decide, by decide⟩) hP hS hA (fun E ce9 q9 H locs hb9 hP hS h1 h2 h3 => ?_)
      subst hQ9
      exact vx_out (fun x hx => (hEx x hx).elim) hlocks h1 h2 h3 (fun t ht ha => ⟨(), trivial, ⟨Or.inr ⟨hb9, hnb⟩, by rw [ht]; exact hP, va_K.moved ha hK, hD⟩, hS.F ht⟩) hS.2.2 (Nat.le_of_ble_eq_true rfl) (Nat.le_of_ble_eq_true rfl)
end
section
set_option maxHeartbeats 4000000 in
set_option maxRecDepth 100000 in
theorem c_X1_thrown (l : Launch) (dC : Nat → ClassId) (dI : Nat → Nat → Nat) (g0 b1 b2 b3 b4 b5 b6 b7 b8 : Nat) (e1 e2 e3 e4 e5 e6 e7 e8 : ClassId) (th : Int32) (kd zs od lk : Nat → Int32) (nu : Nat → Int64) (rb rg td : Nat → Int32) (ob co tp : Int32) (sz : Nat) : Met l yX1_thrown wsX1_thrown ({ frames := 0, cells := 0, slots := 0, locals := 0 }) (va_Pc [.ref g0] (hw_pre (dC, dI) vwCl [(e1, .int), (e2, .int), (e3, .int), (e4, .int), (e5, .long), (e6, .boolean), (e7, .int), (e8, .int)] [(g0, .inr (1, [.int th, .ref b1, .ref b2, .ref b3, .ref b4, .ref b5, .ref b6, .ref b7, .ref b8, .int ob, .int co, .int tp])), (b1, .inl (e1, 301, .inl kd)), (b2, .inl (e2, 301, .inl zs)), (b3, .inl (e3, 301, .inl od)), (b4, .inl (e4, 12040, .inl lk)), (b5, .inl (e5, 12040, .inr (.inl nu))), (b6, .inl (e6, 301, .inl rb)), (b7, .inl (e7, 16, .inl rg)), (b8, .inl (e8, 301, .inl td))] sz)) (QcRead (th)) 0 0 (fun _ => False) := by
  refine Met.ofW (cc := cX1_thrown) (maxL := 1) (ret := some .int) (by decide) rfl ?_
  intro p e s m args below meth c s₁ B hml hv
  obtain ⟨hargs, hsz, hP, hK, hD0⟩ := hv
  have hx := B.exec
  have hb := B.bytes
  have hr := B.returns
  have hts : ∀ w ∈ wb, w.before _ s = true := fun w h => atoms_spec (ws := wsX1_thrown) B.pre w (List.mem_cons_of_mem _ h)
  have hown : s.vm.findClass RX1 = some m.cls := findClass_of_methodNamed B.named
  have hlocks := B.notSynchronized
  subst hsz
  have hD := hD0
  generalize hQ9 : MQ below (QcRead (th)) args s 0 0 (fun _ => False) = Q9
  have hl := lv_entry ([.ref g0]) (n := 1) (Nat.le_of_ble_eq_true rfl)
  rw [show entryFrame m args 1 = _ from (congrArg (fun z => entryFrame m z 1) hargs).trans (lg_entry_eq m [.ref g0] 1)]
  generalize (lg_sl ([.ref g0]) ++ List.replicate (1 - (lg_sl ([.ref g0])).length) Slot.unset).toArray = ls at hl ⊢
  have hl : lv_has ls 1 [(0, .ref g0)] := hl
  refine lv_aload_n hx hb dX1_thrown_0 rfl (lv_at hl 0 rfl) ?_
  refine va_get (D := (dC, dI)) (ci := 1) (v := .int th) (C := RX1) (T := TX1) (N := 12) hx hb hts inX1 hown hK hP 0 rfl rfl 0 (by decide) (hts _ bw_fl_X1_36) (fun _ h9 => h9) rfl dX1_thrown_1 ?_
  subst hQ9
  exact W.iret (v := th) hx hb hr (fun t ht hWm => ⟨rfl, ht⟩) (fun q h => nomatch h) dX1_thrown_4

set_option maxHeartbeats 4000000 in
set_option maxRecDepth 100000 in
theorem c1_X1_isRegister (l : Launch) (dC : Nat → ClassId) (dI : Nat → Nat → Nat) (g0 b1 b2 b3 b4 b5 b6 b7 b8 : Nat) (e1 e2 e3 e4 e5 e6 e7 e8 : ClassId) (th : Int32) (kd zs od lk : Nat → Int32) (nu : Nat → Int64) (rb rg td : Nat → Int32) (ob co tp : Int32) (sz : Nat) {r : Int32} (hok : ¬ hp_bad r 16) : Met l yX1_isRegister wsX1_isRegister ({ frames := 0, cells := 0, slots := 0, locals := 0 }) (va_Pc [.ref g0, .int r] (hw_pre (dC, dI) vwCl [(e1, .int), (e2, .int), (e3, .int), (e4, .int), (e5, .long), (e6, .boolean), (e7, .int), (e8, .int)] [(g0, .inr (1, [.int th, .ref b1, .ref b2, .ref b3, .ref b4, .ref b5, .ref b6, .ref b7, .ref b8, .int ob, .int co, .int tp])), (b1, .inl (e1, 301, .inl kd)), (b2, .inl (e2, 301, .inl zs)), (b3, .inl (e3, 301, .inl od)), (b4, .inl (e4, 12040, .inl lk)), (b5, .inl (e5, 12040, .inr (.inl nu))), (b6, .inl (e6, 301, .inl rb)), (b7, .inl (e7, 16, .inl rg)), (b8, .inl (e8, 301, .inl td))] sz)) (QcRead (1)) 0 0 (fun _ => False) := by
  refine Met.ofW (cc := cX1_isRegister) (maxL := 2) (ret := some .boolean) (by decide) rfl ?_
  intro p e s m args below meth c s₁ B hml hv
  obtain ⟨hargs, hsz, hP, hK, hD0⟩ := hv
  have hx := B.exec
  have hb := B.bytes
  have hr := B.returns
  have hts : ∀ w ∈ wb, w.before _ s = true := fun w h => atoms_spec (ws := wsX1_isRegister) B.pre w (List.mem_cons_of_mem _ h)
  have hown : s.vm.findClass RX1 = some m.cls := findClass_of_methodNamed B.named
  have hlocks := B.notSynchronized
  subst hsz
  have hD := hD0
  generalize hQ9 : MQ below (QcRead (1)) args s 0 0 (fun _ => False) = Q9
  have hl := lv_entry ([.ref g0, .int r]) (n := 2) (Nat.le_of_ble_eq_true rfl)
  rw [show entryFrame m args 2 = _ from (congrArg (fun z => entryFrame m z 2) hargs).trans (lg_entry_eq m [.ref g0, .int r] 2)]
  generalize (lg_sl ([.ref g0, .int r]) ++ List.replicate (2 - (lg_sl ([.ref g0, .int r])).length) Slot.unset).toArray = ls at hl ⊢
  have hl : lv_has ls 2 [(0, .ref g0), (1, .int r)] := hl
  refine lv_iload_n hx hb dX1_isRegister_0 rfl (lv_at hl 1 rfl) ?_
  refine lv_if_lt hx hb dX1_isRegister_1 (tgt := 14) (by decide) (fun hc => ?_) (fun hc => ?_)
  · exact absurd (Or.inl hc) hok
  · skip
    refine lv_iload_n hx hb dX1_isRegister_4 rfl (lv_at hl 1 rfl) ?_
    refine lv_bipush (v := 16) hx hb dX1_isRegister_5 (by decide) ?_
    refine lv_icmp_ge hx hb dX1_isRegister_7 (tgt := 14) (by decide) (fun hc => ?_) (fun hc => ?_)
    · exact absurd (Or.inr hc) hok
    · skip
      refine lv_iconst (v := 1) hx hb dX1_isRegister_10 (by decide) ?_
      refine lv_goto hx hb dX1_isRegister_11 (tgt := 15) (by decide) ?_
      subst hQ9
      exact W.zret (v := 1) hx hb hr rfl (fun t ht hWm => ⟨rfl, ht⟩) (fun q h => nomatch h) dX1_isRegister_15

set_option maxHeartbeats 4000000 in
set_option maxRecDepth 100000 in
theorem c0_X1_isRegister (l : Launch) (dC : Nat → ClassId) (dI : Nat → Nat → Nat) (g0 b1 b2 b3 b4 b5 b6 b7 b8 : Nat) (e1 e2 e3 e4 e5 e6 e7 e8 : ClassId) (th : Int32) (kd zs od lk : Nat → Int32) (nu : Nat → Int64) (rb rg td : Nat → Int32) (ob co tp : Int32) (sz : Nat) {r : Int32} (hbad : hp_bad r 16) : Met l yX1_isRegister wsX1_isRegister ({ frames := 0, cells := 0, slots := 0, locals := 0 }) (va_Pc [.ref g0, .int r] (hw_pre (dC, dI) vwCl [(e1, .int), (e2, .int), (e3, .int), (e4, .int), (e5, .long), (e6, .boolean), (e7, .int), (e8, .int)] [(g0, .inr (1, [.int th, .ref b1, .ref b2, .ref b3, .ref b4, .ref b5, .ref b6, .ref b7, .ref b8, .int ob, .int co, .int tp])), (b1, .inl (e1, 301, .inl kd)), (b2, .inl (e2, 301, .inl zs)), (b3, .inl (e3, 301, .inl od)), (b4, .inl (e4, 12040, .inl lk)), (b5, .inl (e5, 12040, .inr (.inl nu))), (b6, .inl (e6, 301, .inl rb)), (b7, .inl (e7, 16, .inl rg)), (b8, .inl (e8, 301, .inl td))] sz)) (QcRead (0)) 0 0 (fun _ => False) := by
  refine Met.ofW (cc := cX1_isRegister) (maxL := 2) (ret := some .boolean) (by decide) rfl ?_
  intro p e s m args below meth c s₁ B hml hv
  obtain ⟨hargs, hsz, hP, hK, hD0⟩ := hv
  have hx := B.exec
  have hb := B.bytes
  have hr := B.returns
  have hts : ∀ w ∈ wb, w.before _ s = true := fun w h => atoms_spec (ws := wsX1_isRegister) B.pre w (List.mem_cons_of_mem _ h)
  have hown : s.vm.findClass RX1 = some m.cls := findClass_of_methodNamed B.named
  have hlocks := B.notSynchronized
  subst hsz
  have hD := hD0
  generalize hQ9 : MQ below (QcRead (0)) args s 0 0 (fun _ => False) = Q9
  have hl := lv_entry ([.ref g0, .int r]) (n := 2) (Nat.le_of_ble_eq_true rfl)
  rw [show entryFrame m args 2 = _ from (congrArg (fun z => entryFrame m z 2) hargs).trans (lg_entry_eq m [.ref g0, .int r] 2)]
  generalize (lg_sl ([.ref g0, .int r]) ++ List.replicate (2 - (lg_sl ([.ref g0, .int r])).length) Slot.unset).toArray = ls at hl ⊢
  have hl : lv_has ls 2 [(0, .ref g0), (1, .int r)] := hl
  refine lv_iload_n hx hb dX1_isRegister_0 rfl (lv_at hl 1 rfl) ?_
  refine lv_if_lt hx hb dX1_isRegister_1 (tgt := 14) (by decide) (fun hc => ?_) (fun hc => ?_)
  · skip
    refine lv_iconst (v := 0) hx hb dX1_isRegister_14 (by decide) ?_
    subst hQ9
    exact W.zret (v := 0) hx hb hr rfl (fun t ht hWm => ⟨rfl, ht⟩) (fun q h => nomatch h) dX1_isRegister_15
  · skip
    refine lv_iload_n hx hb dX1_isRegister_4 rfl (lv_at hl 1 rfl) ?_
    refine lv_bipush (v := 16) hx hb dX1_isRegister_5 (by decide) ?_
    refine lv_icmp_ge hx hb dX1_isRegister_7 (tgt := 14) (by decide) (fun hc => ?_) (fun hc => ?_)
    · skip
      refine lv_iconst (v := 0) hx hb dX1_isRegister_14 (by decide) ?_
      subst hQ9
      exact W.zret (v := 0) hx hb hr rfl (fun t ht hWm => ⟨rfl, ht⟩) (fun q h => nomatch h) dX1_isRegister_15
    · exact absurd (hbad.resolve_left (by assumption)) hc

set_option maxHeartbeats 4000000 in
set_option maxRecDepth 100000 in
theorem c_X1_cellsOf (l : Launch) (dC : Nat → ClassId) (dI : Nat → Nat → Nat) (g0 b1 b2 b3 b4 b5 b6 b7 b8 : Nat) (e1 e2 e3 e4 e5 e6 e7 e8 : ClassId) (th : Int32) (kd zs od lk : Nat → Int32) (nu : Nat → Int64) (rb rg td : Nat → Int32) (ob co tp : Int32) (sz : Nat) (M : hp_S) (hW : hp_W M) (hQ : hp_Q M kd zs od lk nu rg ob co) (o : Nat) (ho : o ∈ hp_L M) : Met l yX1_cellsOf wsX1_cellsOf ({ frames := 0, cells := 0, slots := 0, locals := 0 }) (va_Pc [.ref g0, .int (nI o)] (hw_pre (dC, dI) vwCl [(e1, .int), (e2, .int), (e3, .int), (e4, .int), (e5, .long), (e6, .boolean), (e7, .int), (e8, .int)] [(g0, .inr (1, [.int th, .ref b1, .ref b2, .ref b3, .ref b4, .ref b5, .ref b6, .ref b7, .ref b8, .int ob, .int co, .int tp])), (b1, .inl (e1, 301, .inl kd)), (b2, .inl (e2, 301, .inl zs)), (b3, .inl (e3, 301, .inl od)), (b4, .inl (e4, 12040, .inl lk)), (b5, .inl (e5, 12040, .inr (.inl nu))), (b6, .inl (e6, 301, .inl rb)), (b7, .inl (e7, 16, .inl rg)), (b8, .inl (e8, 301, .inl td))] sz)) (QcRead (nI (1 + hp_z M o))) 0 0 (fun _ => False) := by
  refine Met.ofW (cc := cX1_cellsOf) (maxL := 2) (ret := some .int) (by decide) rfl ?_
  intro p e s m args below meth c s₁ B hml hv
  obtain ⟨hargs, hsz, hP, hK, hD0⟩ := hv
  have hx := B.exec
  have hb := B.bytes
  have hr := B.returns
  have hts : ∀ w ∈ wb, w.before _ s = true := fun w h => atoms_spec (ws := wsX1_cellsOf) B.pre w (List.mem_cons_of_mem _ h)
  have hown : s.vm.findClass RX1 = some m.cls := findClass_of_methodNamed B.named
  have hlocks := B.notSynchronized
  subst hsz
  have hD := hD0
  generalize hQ9 : MQ below (QcRead (nI (1 + hp_z M o))) args s 0 0 (fun _ => False) = Q9
  have hl := lv_entry ([.ref g0, .int (nI o)]) (n := 2) (Nat.le_of_ble_eq_true rfl)
  rw [show entryFrame m args 2 = _ from (congrArg (fun z => entryFrame m z 2) hargs).trans (lg_entry_eq m [.ref g0, .int (nI o)] 2)]
  generalize (lg_sl ([.ref g0, .int (nI o)]) ++ List.replicate (2 - (lg_sl ([.ref g0, .int (nI o)])).length) Slot.unset).toArray = ls at hl ⊢
  have hl : lv_has ls 2 [(0, .ref g0), (1, .int (nI o))] := hl
  have hw := hW.2.1 o ho
  have hq := hQ.2.2.2.2.2 o ho
  refine lv_iconst (v := 1) hx hb dX1_cellsOf_0 (by decide) ?_
  refine lv_aload_n hx hb dX1_cellsOf_1 rfl (lv_at hl 0 rfl) ?_
  refine va_get (D := (dC, dI)) (ci := 1) (v := .ref b1) (C := RX1) (T := TX1) (N := 12) hx hb hts inX1 hown hK hP 0 rfl rfl 1 (by decide) (hts _ bw_fl_X1_7) (fun _ h9 => h9) rfl dX1_cellsOf_2 ?_
  refine lv_iload_n hx hb dX1_cellsOf_5 rfl (lv_at hl 1 rfl) ?_
  refine hw_iald (j := o) hx hb hK hP 1 0 rfl rfl (rfl) (by omega) (by decide) dX1_cellsOf_6 ?_
  refine hw_topi (y := nI (hp_k M o)) (hQ.2.2.2.1 o (by omega)) ?_
  refine lv_iconst (v := 3) hx hb dX1_cellsOf_7 (by decide) ?_
  refine lv_icmp_ne hx hb dX1_cellsOf_8 (tgt := 15) (by decide) (fun hc => ?_) (fun hc => ?_)
  · skip
    refine lv_aload_n hx hb dX1_cellsOf_15 rfl (lv_at hl 0 rfl) ?_
    refine va_get (D := (dC, dI)) (ci := 1) (v := .ref b2) (C := RX1) (T := TX1) (N := 12) hx hb hts inX1 hown hK hP 0 rfl rfl 2 (by decide) (hts _ bw_fl_X1_13) (fun _ h9 => h9) rfl dX1_cellsOf_16 ?_
    refine lv_iload_n hx hb dX1_cellsOf_19 rfl (lv_at hl 1 rfl) ?_
    refine hw_iald (j := o) hx hb hK hP 2 1 rfl rfl (rfl) (by omega) (by decide) dX1_cellsOf_20 ?_
    refine hw_topi (y := nI (hp_z M o)) (hq.1) ?_
    refine lv_iadd hx hb dX1_cellsOf_21 ?_
    refine hw_topi (y := nI (1 + hp_z M o)) (hp_1a _) ?_
    subst hQ9
    exact W.iret (v := nI (1 + hp_z M o)) hx hb hr (fun t ht hWm => ⟨rfl, ht⟩) (fun q h => nomatch h) dX1_cellsOf_22
  · have hk3 : hp_k M o = 3 := (hp_k1 hW ho (n := 3) (by decide)).mp hc
    refine lv_iconst (v := 1) hx hb dX1_cellsOf_11 (by decide) ?_
    refine lv_goto hx hb dX1_cellsOf_12 (tgt := 21) (by decide) ?_
    refine hw_topi (y := nI (hp_z M o)) (by rw [hw.2.2.2.2.2 hk3]; decide) ?_
    refine lv_iadd hx hb dX1_cellsOf_21 ?_
    refine hw_topi (y := nI (1 + hp_z M o)) (hp_1a _) ?_
    subst hQ9
    exact W.iret (v := nI (1 + hp_z M o)) hx hb hr (fun t ht hWm => ⟨rfl, ht⟩) (fun q h => nomatch h) dX1_cellsOf_22

set_option maxHeartbeats 4000000 in
set_option maxRecDepth 100000 in
theorem c_X1_cells (l : Launch) (dC : Nat → ClassId) (dI : Nat → Nat → Nat) (g0 b1 b2 b3 b4 b5 b6 b7 b8 : Nat) (e1 e2 e3 e4 e5 e6 e7 e8 : ClassId) (th : Int32) (kd zs od lk : Nat → Int32) (nu : Nat → Int64) (rb rg td : Nat → Int32) (ob co tp : Int32) (sz : Nat) (M : hp_S) (hW : hp_W M) (hQ : hp_Q M kd zs od lk nu rg ob co) : Met l yX1_cells wsX1_cells ({ frames := 1, cells := 0, slots := 0, locals := 21 }) (va_Pc [.ref g0] (hw_pre (dC, dI) vwCl [(e1, .int), (e2, .int), (e3, .int), (e4, .int), (e5, .long), (e6, .boolean), (e7, .int), (e8, .int)] [(g0, .inr (1, [.int th, .ref b1, .ref b2, .ref b3, .ref b4, .ref b5, .ref b6, .ref b7, .ref b8, .int ob, .int co, .int tp])), (b1, .inl (e1, 301, .inl kd)), (b2, .inl (e2, 301, .inl zs)), (b3, .inl (e3, 301, .inl od)), (b4, .inl (e4, 12040, .inl lk)), (b5, .inl (e5, 12040, .inr (.inl nu))), (b6, .inl (e6, 301, .inl rb)), (b7, .inl (e7, 16, .inl rg)), (b8, .inl (e8, 301, .inl td))] sz)) (QcRead (nI (hp_tk M))) 0 0 (fun _ => False) := by
  refine Met.ofW (cc := cX1_cells) (maxL := 3) (ret := some .int) (by decide) rfl ?_
  intro p e s m args below meth c s₁ B hml hv
  obtain ⟨hargs, hsz, hP, hK, hD0⟩ := hv
  have hx := B.exec
  have hb := B.bytes
  have hr := B.returns
  have hts : ∀ w ∈ wb, w.before _ s = true := fun w h => atoms_spec (ws := wsX1_cells) B.pre w (List.mem_cons_of_mem _ h)
  have hown : s.vm.findClass RX1 = some m.cls := findClass_of_methodNamed B.named
  have hlocks := B.notSynchronized
  subst hsz
  have hD := hD0
  generalize hQ9 : MQ below (QcRead (nI (hp_tk M))) args s 0 0 (fun _ => False) = Q9
  have hl := lv_entry ([.ref g0]) (n := 3) (Nat.le_of_ble_eq_true rfl)
  rw [show entryFrame m args 3 = _ from (congrArg (fun z => entryFrame m z 3) hargs).trans (lg_entry_eq m [.ref g0] 3)]
  generalize (lg_sl ([.ref g0]) ++ List.replicate (3 - (lg_sl ([.ref g0])).length) Slot.unset).toArray = ls at hl ⊢
  have hl : lv_has ls 3 [(0, .ref g0)] := hl
  refine lv_iconst (v := 0) hx hb dX1_cells_0 (by decide) ?_
  refine hw_topi (y := nI (hp_t (hp_z M) [])) (nI_0.symm) ?_
  refine lv_istore_n hx hb dX1_cells_1 rfl hl (by decide) rfl (fun ls hl => ?_)
  have hl : lv_has ls 3 [(1, .int (nI (hp_t (hp_z M) []))), (0, .ref g0)] := hl
  refine lv_iconst (v := 0) hx hb dX1_cells_2 (by decide) ?_
  refine hw_topi (y := nI ([] : List Nat).length) (nI_0.symm) ?_
  refine lv_istore_n hx hb dX1_cells_3 rfl hl (by decide) rfl (fun ls hl => ?_)
  have hl : lv_has ls 3 [(2, .int (nI ([] : List Nat).length)), (1, .int (nI (hp_t (hp_z M) []))), (0, .ref g0)] := hl
  have loop : ∀ (n9 : Nat) (pre : List Nat) (suf : List Nat) (ls : Array Slot), suf.length < n9 → (hp_L M = pre ++ suf) → lv_has ls 3 [(2, .int (nI pre.length)), (1, .int (nI (hp_t (hp_z M) pre))), (0, .ref g0)] → W p l e (headSpec wsX1_cells ({ frames := 1, cells := 0, slots := 0, locals := 21 })).room s m args below meth c s.heap [] 0 0 Q9 (F0 m 4 ls []) := by
    intro n9
    induction n9 with
    | zero => intro pre suf ls hm; exact absurd hm (Nat.not_lt_zero _)
    | succ n9 ih =>
      intro pre suf ls hm hI hl
      refine lv_iload_n hx hb dX1_cells_4 rfl (lv_at hl 0 rfl) ?_
      refine lv_aload_n hx hb dX1_cells_5 rfl (lv_at hl 2 rfl) ?_
      refine va_get (D := (dC, dI)) (ci := 1) (v := .int ob) (C := RX1) (T := TX1) (N := 12) hx hb hts inX1 hown hK hP 0 rfl rfl 9 (by decide) (hts _ bw_fl_X1_40) (fun _ h9 => h9) rfl dX1_cells_6 ?_
      refine lv_icmp_ge hx hb dX1_cells_9 (tgt := 31) (by decide) (fun hc => ?_) (fun hc => ?_)
      · have hlen := congrArg List.length hI
        rw [List.length_append] at hlen
        have hL3 := hp_L_len hW
        rw [hQ.1] at hc
        have hs : suf = [] := List.length_eq_zero_iff.mp (by have h1 := (nI_leI (by omega) (by omega)).mp hc; omega)
        subst hs
        have hpre : hp_L M = pre := by rw [hI, List.append_nil]
        refine lv_iload_n hx hb dX1_cells_31 rfl (lv_at hl 1 rfl) ?_
        refine hw_topi (y := nI (hp_tk M)) (by rw [← hpre]) ?_
        subst hQ9
        exact W.iret (v := nI (hp_tk M)) hx hb hr (fun t ht hWm => ⟨rfl, ht⟩) (fun q h => nomatch h) dX1_cells_32
      · have hlen := congrArg List.length hI
        rw [List.length_append] at hlen
        have hL3 := hp_L_len hW
        rw [hQ.1] at hc
        have hs : 0 < suf.length := Nat.pos_of_ne_zero (fun h9 => hc ((nI_leI (by omega) (by omega)).mpr (by omega)))
        obtain ⟨o, suf2, rfl⟩ : ∃ o suf2, suf = o :: suf2 := by
          cases suf with
          | nil => exact absurd hs (Nat.lt_irrefl _)
          | cons o suf2 => exact ⟨o, suf2, rfl⟩
        have hpo := hp_old_at hW hI
        have ho : o ∈ hp_L M := by rw [hI]; simp
        have hod : od pre.length = nI o := hQ.2.2.2.2.1 _ _ (by rw [hI]; simp)
        have hlt := hp_pl_lt hW ho
        refine lv_iload_n hx hb dX1_cells_12 rfl (lv_at hl 1 rfl) ?_
        refine lv_aload_n hx hb dX1_cells_13 rfl (lv_at hl 2 rfl) ?_
        refine lv_aload_n hx hb dX1_cells_14 rfl (lv_at hl 2 rfl) ?_
        refine va_get (D := (dC, dI)) (ci := 1) (v := .ref b3) (C := RX1) (T := TX1) (N := 12) hx hb hts inX1 hown hK hP 0 rfl rfl 3 (by decide) (hts _ bw_fl_X1_16) (fun _ h9 => h9) rfl dX1_cells_15 ?_
        refine lv_iload_n hx hb dX1_cells_18 rfl (lv_at hl 0 rfl) ?_
        refine hw_iald (j := pre.length) hx hb hK hP 3 2 rfl rfl (rfl) (by omega) (by decide) dX1_cells_19 ?_
        refine hw_topi (y := nI o) (hod) ?_
        refine W.callR (W.runV (As := [.int (nI o)]) (rest := [.int (nI (hp_t (hp_z M) pre))]) ⟨hx, hb, hml, hown, hts⟩ (c_X1_cellsOf l dC dI g0 b1 b2 b3 b4 b5 b6 b7 b8 e1 e2 e3 e4 e5 e6 e7 e8 th kd zs od lk nu rb rg td ob co tp _ M hW hQ o ho) (cwV 1 hts gw_X1_43 rfl rfl rfl ⟨rfl, by decide, by decide, by decide +kernel⟩ ⟨Nat.le_of_ble_eq_true rfl, Nat.le_of_ble_eq_true rfl⟩) ⟨hw_blind, va_recv (q0 := 0) (ci := 1) (q := (RX1, TX1, 12)) hK hP rfl rfl, hw_pay hP hK hD⟩ rfl rfl hl.1 rfl (lv_room (Nat.le_of_ble_eq_true rfl)) dX1_cells_20 ⟨by decide, by decide⟩) ?_
        refine W.eq (g2 := F0 m 23 ls [.int (nI (1 + hp_z M o)), .int (nI (hp_t (hp_z M) pre))]) rfl ?_
        refine lv_iadd hx hb dX1_cells_23 ?_
        refine hw_topi (y := nI (hp_t (hp_z M) (pre ++ [o]))) (by rw [hp_t_snoc]; exact nI_add _ _) ?_
        refine lv_istore_n hx hb dX1_cells_24 rfl hl (by decide) rfl (fun ls hl => ?_)
        have hl : lv_has ls 3 [(1, .int (nI (hp_t (hp_z M) (pre ++ [o])))), (2, .int (nI pre.length)), (0, .ref g0)] := hl
        refine lv_iinc (k := 1) (v := nI (pre ++ [o]).length) hx hb dX1_cells_25 hl rfl (by rw [List.length_append]; exact nI_1 _) (by decide) rfl (fun ls hl => ?_)
        have hl : lv_has ls 3 [(2, .int (nI (pre ++ [o]).length)), (1, .int (nI (hp_t (hp_z M) (pre ++ [o])))), (0, .ref g0)] := hl
        refine lv_goto hx hb dX1_cells_28 (tgt := 4) (by decide) ?_
        exact ih (pre ++ [o]) suf2 ls (by simp only [List.length_cons] at hm; omega) (by rw [hI, List.append_assoc]; rfl) (lv_sub hl [0, 1, 2] rfl)
  exact loop _ ([]) (hp_L M) ls (Nat.lt_succ_self _) (rfl) (lv_sub hl [0, 1, 2] rfl)

set_option maxHeartbeats 4000000 in
set_option maxRecDepth 100000 in
theorem c_X1_placeOf (l : Launch) (dC : Nat → ClassId) (dI : Nat → Nat → Nat) (g0 b1 b2 b3 b4 b5 b6 b7 b8 : Nat) (e1 e2 e3 e4 e5 e6 e7 e8 : ClassId) (th : Int32) (kd zs od lk : Nat → Int32) (nu : Nat → Int64) (rb rg td : Nat → Int32) (ob co tp : Int32) (sz : Nat) (M : hp_S) (hW : hp_W M) (hQ : hp_Q M kd zs od lk nu rg ob co) (x : Nat) (hx9 : x ∈ hp_L M) : Met l yX1_placeOf wsX1_placeOf ({ frames := 1, cells := 0, slots := 0, locals := 21 }) (va_Pc [.ref g0, .int (nI x)] (hw_pre (dC, dI) vwCl [(e1, .int), (e2, .int), (e3, .int), (e4, .int), (e5, .long), (e6, .boolean), (e7, .int), (e8, .int)] [(g0, .inr (1, [.int th, .ref b1, .ref b2, .ref b3, .ref b4, .ref b5, .ref b6, .ref b7, .ref b8, .int ob, .int co, .int tp])), (b1, .inl (e1, 301, .inl kd)), (b2, .inl (e2, 301, .inl zs)), (b3, .inl (e3, 301, .inl od)), (b4, .inl (e4, 12040, .inl lk)), (b5, .inl (e5, 12040, .inr (.inl nu))), (b6, .inl (e6, 301, .inl rb)), (b7, .inl (e7, 16, .inl rg)), (b8, .inl (e8, 301, .inl td))] sz)) (QcRead (nI (hp_pl M x))) 0 0 (fun _ => False) := by
  refine Met.ofW (cc := cX1_placeOf) (maxL := 4) (ret := some .int) (by decide) rfl ?_
  intro p e s m args below meth c s₁ B hml hv
  obtain ⟨hargs, hsz, hP, hK, hD0⟩ := hv
  have hx := B.exec
  have hb := B.bytes
  have hr := B.returns
  have hts : ∀ w ∈ wb, w.before _ s = true := fun w h => atoms_spec (ws := wsX1_placeOf) B.pre w (List.mem_cons_of_mem _ h)
  have hown : s.vm.findClass RX1 = some m.cls := findClass_of_methodNamed B.named
  have hlocks := B.notSynchronized
  subst hsz
  have hD := hD0
  generalize hQ9 : MQ below (QcRead (nI (hp_pl M x))) args s 0 0 (fun _ => False) = Q9
  have hl := lv_entry ([.ref g0, .int (nI x)]) (n := 4) (Nat.le_of_ble_eq_true rfl)
  rw [show entryFrame m args 4 = _ from (congrArg (fun z => entryFrame m z 4) hargs).trans (lg_entry_eq m [.ref g0, .int (nI x)] 4)]
  generalize (lg_sl ([.ref g0, .int (nI x)]) ++ List.replicate (4 - (lg_sl ([.ref g0, .int (nI x)])).length) Slot.unset).toArray = ls at hl ⊢
  have hl : lv_has ls 4 [(0, .ref g0), (1, .int (nI x))] := hl
  refine lv_iconst (v := 0) hx hb dX1_placeOf_0 (by decide) ?_
  refine hw_topi (y := nI (hp_t (hp_z M) [])) (nI_0.symm) ?_
  refine lv_istore_n hx hb dX1_placeOf_1 rfl hl (by decide) rfl (fun ls hl => ?_)
  have hl : lv_has ls 4 [(2, .int (nI (hp_t (hp_z M) []))), (0, .ref g0), (1, .int (nI x))] := hl
  refine lv_iconst (v := 0) hx hb dX1_placeOf_2 (by decide) ?_
  refine hw_topi (y := nI ([] : List Nat).length) (nI_0.symm) ?_
  refine lv_istore_n hx hb dX1_placeOf_3 rfl hl (by decide) rfl (fun ls hl => ?_)
  have hl : lv_has ls 4 [(3, .int (nI ([] : List Nat).length)), (2, .int (nI (hp_t (hp_z M) []))), (0, .ref g0), (1, .int (nI x))] := hl
  have loop : ∀ (n9 : Nat) (pre : List Nat) (suf : List Nat) (ls : Array Slot), suf.length < n9 → (hp_L M = pre ++ suf ∧ x ∈ suf ∧ x ∉ pre) → lv_has ls 4 [(3, .int (nI pre.length)), (2, .int (nI (hp_t (hp_z M) pre))), (0, .ref g0), (1, .int (nI x))] → W p l e (headSpec wsX1_placeOf ({ frames := 1, cells := 0, slots := 0, locals := 21 })).room s m args below meth c s.heap [] 0 0 Q9 (F0 m 4 ls []) := by
    intro n9
    induction n9 with
    | zero => intro pre suf ls hm; exact absurd hm (Nat.not_lt_zero _)
    | succ n9 ih =>
      intro pre suf ls hm hI hl
      have hlen := congrArg List.length hI.1
      rw [List.length_append] at hlen
      have hL3 := hp_L_len hW
      have hs : 0 < suf.length := List.length_pos_of_mem hI.2.1
      obtain ⟨o, suf2, rfl⟩ : ∃ o suf2, suf = o :: suf2 := by
        cases suf with
        | nil => exact absurd hs (Nat.lt_irrefl _)
        | cons o suf2 => exact ⟨o, suf2, rfl⟩
      have hpo := hp_old_at hW hI.1
      have ho : o ∈ hp_L M := by rw [hI.1]; simp
      have hod : od pre.length = nI o := hQ.2.2.2.2.1 _ _ (by rw [hI.1]; simp)
      have hlt := hp_pl_lt hW ho
      have hox := hW.2.1 o ho
      have hxx := hW.2.1 x hx9
      simp only [List.length_cons] at hlen
      refine lv_aload_n hx hb dX1_placeOf_4 rfl (lv_at hl 2 rfl) ?_
      refine va_get (D := (dC, dI)) (ci := 1) (v := .ref b3) (C := RX1) (T := TX1) (N := 12) hx hb hts inX1 hown hK hP 0 rfl rfl 3 (by decide) (hts _ bw_fl_X1_16) (fun _ h9 => h9) rfl dX1_placeOf_5 ?_
      refine lv_iload_n hx hb dX1_placeOf_8 rfl (lv_at hl 0 rfl) ?_
      refine hw_iald (j := pre.length) hx hb hK hP 3 2 rfl rfl (rfl) (by omega) (by decide) dX1_placeOf_9 ?_
      refine hw_topi (y := nI o) (hod) ?_
      refine lv_iload_n hx hb dX1_placeOf_10 rfl (lv_at hl 3 rfl) ?_
      refine lv_icmp_eq hx hb dX1_placeOf_11 (tgt := 33) (by decide) (fun hc => ?_) (fun hc => ?_)
      · have hox2 : o = x := (nI_eq (by omega) (by omega)).mp hc
        subst hox2
        refine lv_iload_n hx hb dX1_placeOf_33 rfl (lv_at hl 1 rfl) ?_
        refine hw_topi (y := nI (hp_pl M o)) (by rw [hpo]) ?_
        subst hQ9
        exact W.iret (v := nI (hp_pl M o)) hx hb hr (fun t ht hWm => ⟨rfl, ht⟩) (fun q h => nomatch h) dX1_placeOf_34
      · have hox2 : o ≠ x := fun h9 => hc (by rw [h9])
        refine lv_iload_n hx hb dX1_placeOf_14 rfl (lv_at hl 1 rfl) ?_
        refine lv_aload_n hx hb dX1_placeOf_15 rfl (lv_at hl 2 rfl) ?_
        refine lv_aload_n hx hb dX1_placeOf_16 rfl (lv_at hl 2 rfl) ?_
        refine va_get (D := (dC, dI)) (ci := 1) (v := .ref b3) (C := RX1) (T := TX1) (N := 12) hx hb hts inX1 hown hK hP 0 rfl rfl 3 (by decide) (hts _ bw_fl_X1_16) (fun _ h9 => h9) rfl dX1_placeOf_17 ?_
        refine lv_iload_n hx hb dX1_placeOf_20 rfl (lv_at hl 0 rfl) ?_
        refine hw_iald (j := pre.length) hx hb hK hP 3 2 rfl rfl (rfl) (by omega) (by decide) dX1_placeOf_21 ?_
        refine hw_topi (y := nI o) (hod) ?_
        refine W.callR (W.runV (As := [.int (nI o)]) (rest := [.int (nI (hp_t (hp_z M) pre))]) ⟨hx, hb, hml, hown, hts⟩ (c_X1_cellsOf l dC dI g0 b1 b2 b3 b4 b5 b6 b7 b8 e1 e2 e3 e4 e5 e6 e7 e8 th kd zs od lk nu rb rg td ob co tp _ M hW hQ o ho) (cwV 1 hts gw_X1_43 rfl rfl rfl ⟨rfl, by decide, by decide, by decide +kernel⟩ ⟨Nat.le_of_ble_eq_true rfl, Nat.le_of_ble_eq_true rfl⟩) ⟨hw_blind, va_recv (q0 := 0) (ci := 1) (q := (RX1, TX1, 12)) hK hP rfl rfl, hw_pay hP hK hD⟩ rfl rfl hl.1 rfl (lv_room (Nat.le_of_ble_eq_true rfl)) dX1_placeOf_22 ⟨by decide, by decide⟩) ?_
        refine W.eq (g2 := F0 m 25 ls [.int (nI (1 + hp_z M o)), .int (nI (hp_t (hp_z M) pre))]) rfl ?_
        refine lv_iadd hx hb dX1_placeOf_25 ?_
        refine hw_topi (y := nI (hp_t (hp_z M) (pre ++ [o]))) (by rw [hp_t_snoc]; exact nI_add _ _) ?_
        refine lv_istore_n hx hb dX1_placeOf_26 rfl hl (by decide) rfl (fun ls hl => ?_)
        have hl : lv_has ls 4 [(2, .int (nI (hp_t (hp_z M) (pre ++ [o])))), (3, .int (nI pre.length)), (0, .ref g0), (1, .int (nI x))] := hl
        refine lv_iinc (k := 1) (v := nI (pre ++ [o]).length) hx hb dX1_placeOf_27 hl rfl (by rw [List.length_append]; exact nI_1 _) (by decide) rfl (fun ls hl => ?_)
        have hl : lv_has ls 4 [(3, .int (nI (pre ++ [o]).length)), (2, .int (nI (hp_t (hp_z M) (pre ++ [o])))), (0, .ref g0), (1, .int (nI x))] := hl
        refine lv_goto hx hb dX1_placeOf_30 (tgt := 4) (by decide) ?_
        exact ih (pre ++ [o]) suf2 ls (by simp only [List.length_cons] at hm; omega) (⟨by rw [hI.1, List.append_assoc]; rfl, (List.mem_cons.mp hI.2.1).resolve_left (fun h9 => hox2 h9.symm), fun h9 => (List.mem_append.mp h9).elim hI.2.2 (fun h8 => hox2 (List.mem_singleton.mp h8).symm)⟩) (lv_sub hl [0, 1, 2, 3] rfl)
  exact loop _ ([]) (hp_L M) ls (Nat.lt_succ_self _) (⟨rfl, hx9, List.not_mem_nil⟩) (lv_sub hl [0, 1, 2, 3] rfl)

set_option maxHeartbeats 4000000 in
set_option maxRecDepth 100000 in
theorem c1_X1_isWrong (l : Launch) (dC : Nat → ClassId) (dI : Nat → Nat → Nat) (g0 b1 b2 b3 b4 b5 b6 b7 b8 : Nat) (e1 e2 e3 e4 e5 e6 e7 e8 : ClassId) (th : Int32) (kd zs od lk : Nat → Int32) (nu : Nat → Int64) (rb rg td : Nat → Int32) (ob co tp : Int32) (sz : Nat) (M : hp_S) (hW : hp_W M) (hQ : hp_Q M kd zs od lk nu rg ob co) (o kk : Nat) (i : Int32) (ho : o ∈ hp_L M) (hk4 : kk < 4) (hwr : ¬ (hp_k M o = kk ∧ ¬ hp_bad i (hp_z M o))) : Met l yX1_isWrong wsX1_isWrong ({ frames := 0, cells := 0, slots := 0, locals := 0 }) (va_Pc [.ref g0, .int (nI o), .int (nI kk), .int i] (hw_pre (dC, dI) vwCl [(e1, .int), (e2, .int), (e3, .int), (e4, .int), (e5, .long), (e6, .boolean), (e7, .int), (e8, .int)] [(g0, .inr (1, [.int th, .ref b1, .ref b2, .ref b3, .ref b4, .ref b5, .ref b6, .ref b7, .ref b8, .int ob, .int co, .int tp])), (b1, .inl (e1, 301, .inl kd)), (b2, .inl (e2, 301, .inl zs)), (b3, .inl (e3, 301, .inl od)), (b4, .inl (e4, 12040, .inl lk)), (b5, .inl (e5, 12040, .inr (.inl nu))), (b6, .inl (e6, 301, .inl rb)), (b7, .inl (e7, 16, .inl rg)), (b8, .inl (e8, 301, .inl td))] sz)) (QcRead (1)) 0 0 (fun _ => False) := by
  refine Met.ofW (cc := cX1_isWrong) (maxL := 4) (ret := some .boolean) (by decide) rfl ?_
  intro p e s m args below meth c s₁ B hml hv
  obtain ⟨hargs, hsz, hP, hK, hD0⟩ := hv
  have hx := B.exec
  have hb := B.bytes
  have hr := B.returns
  have hts : ∀ w ∈ wb, w.before _ s = true := fun w h => atoms_spec (ws := wsX1_isWrong) B.pre w (List.mem_cons_of_mem _ h)
  have hown : s.vm.findClass RX1 = some m.cls := findClass_of_methodNamed B.named
  have hlocks := B.notSynchronized
  subst hsz
  have hD := hD0
  generalize hQ9 : MQ below (QcRead (1)) args s 0 0 (fun _ => False) = Q9
  have hl := lv_entry ([.ref g0, .int (nI o), .int (nI kk), .int i]) (n := 4) (Nat.le_of_ble_eq_true rfl)
  rw [show entryFrame m args 4 = _ from (congrArg (fun z => entryFrame m z 4) hargs).trans (lg_entry_eq m [.ref g0, .int (nI o), .int (nI kk), .int i] 4)]
  generalize (lg_sl ([.ref g0, .int (nI o), .int (nI kk), .int i]) ++ List.replicate (4 - (lg_sl ([.ref g0, .int (nI o), .int (nI kk), .int i])).length) Slot.unset).toArray = ls at hl ⊢
  have hl : lv_has ls 4 [(0, .ref g0), (1, .int (nI o)), (2, .int (nI kk)), (3, .int i)] := hl
  have hw := hW.2.1 o ho
  have hq := hQ.2.2.2.2.2 o ho
  refine lv_aload_n hx hb dX1_isWrong_0 rfl (lv_at hl 0 rfl) ?_
  refine va_get (D := (dC, dI)) (ci := 1) (v := .ref b1) (C := RX1) (T := TX1) (N := 12) hx hb hts inX1 hown hK hP 0 rfl rfl 1 (by decide) (hts _ bw_fl_X1_7) (fun _ h9 => h9) rfl dX1_isWrong_1 ?_
  refine lv_iload_n hx hb dX1_isWrong_4 rfl (lv_at hl 1 rfl) ?_
  refine hw_iald (j := o) hx hb hK hP 1 0 rfl rfl (rfl) (by omega) (by decide) dX1_isWrong_5 ?_
  refine hw_topi (y := nI (hp_k M o)) (hQ.2.2.2.1 o (by omega)) ?_
  refine lv_iload_n hx hb dX1_isWrong_6 rfl (lv_at hl 2 rfl) ?_
  refine lv_icmp_ne hx hb dX1_isWrong_7 (tgt := 24) (by decide) (fun hc => ?_) (fun hc => ?_)
  · skip
    refine lv_iconst (v := 1) hx hb dX1_isWrong_24 (by decide) ?_
    refine lv_goto hx hb dX1_isWrong_25 (tgt := 29) (by decide) ?_
    subst hQ9
    exact W.zret (v := 1) hx hb hr rfl (fun t ht hWm => ⟨rfl, ht⟩) (fun q h => nomatch h) dX1_isWrong_29
  · have hkk := (hp_k1 hW ho hk4).mp hc
    refine lv_iload_n hx hb dX1_isWrong_10 rfl (lv_at hl 3 rfl) ?_
    refine lv_if_lt hx hb dX1_isWrong_11 (tgt := 24) (by decide) (fun hc => ?_) (fun hc => ?_)
    · skip
      refine lv_iconst (v := 1) hx hb dX1_isWrong_24 (by decide) ?_
      refine lv_goto hx hb dX1_isWrong_25 (tgt := 29) (by decide) ?_
      subst hQ9
      exact W.zret (v := 1) hx hb hr rfl (fun t ht hWm => ⟨rfl, ht⟩) (fun q h => nomatch h) dX1_isWrong_29
    · have hi0 := hc
      refine lv_iload_n hx hb dX1_isWrong_14 rfl (lv_at hl 3 rfl) ?_
      refine lv_aload_n hx hb dX1_isWrong_15 rfl (lv_at hl 0 rfl) ?_
      refine va_get (D := (dC, dI)) (ci := 1) (v := .ref b2) (C := RX1) (T := TX1) (N := 12) hx hb hts inX1 hown hK hP 0 rfl rfl 2 (by decide) (hts _ bw_fl_X1_13) (fun _ h9 => h9) rfl dX1_isWrong_16 ?_
      refine lv_iload_n hx hb dX1_isWrong_19 rfl (lv_at hl 1 rfl) ?_
      refine hw_iald (j := o) hx hb hK hP 2 1 rfl rfl (rfl) (by omega) (by decide) dX1_isWrong_20 ?_
      refine hw_topi (y := nI (hp_z M o)) (hq.1) ?_
      refine lv_icmp_lt hx hb dX1_isWrong_21 (tgt := 28) (by decide) (fun hc => ?_) (fun hc => ?_)
      · exact absurd ⟨hkk, fun h9 => h9.elim hi0 (fun h8 => Int32.not_lt.mpr h8 hc)⟩ hwr
      · skip
        refine lv_iconst (v := 1) hx hb dX1_isWrong_24 (by decide) ?_
        refine lv_goto hx hb dX1_isWrong_25 (tgt := 29) (by decide) ?_
        subst hQ9
        exact W.zret (v := 1) hx hb hr rfl (fun t ht hWm => ⟨rfl, ht⟩) (fun q h => nomatch h) dX1_isWrong_29

set_option maxHeartbeats 4000000 in
set_option maxRecDepth 100000 in
theorem c0_X1_isWrong (l : Launch) (dC : Nat → ClassId) (dI : Nat → Nat → Nat) (g0 b1 b2 b3 b4 b5 b6 b7 b8 : Nat) (e1 e2 e3 e4 e5 e6 e7 e8 : ClassId) (th : Int32) (kd zs od lk : Nat → Int32) (nu : Nat → Int64) (rb rg td : Nat → Int32) (ob co tp : Int32) (sz : Nat) (M : hp_S) (hW : hp_W M) (hQ : hp_Q M kd zs od lk nu rg ob co) (o kk : Nat) (i : Int32) (ho : o ∈ hp_L M) (hk4 : kk < 4) (hwr : hp_k M o = kk ∧ ¬ hp_bad i (hp_z M o)) : Met l yX1_isWrong wsX1_isWrong ({ frames := 0, cells := 0, slots := 0, locals := 0 }) (va_Pc [.ref g0, .int (nI o), .int (nI kk), .int i] (hw_pre (dC, dI) vwCl [(e1, .int), (e2, .int), (e3, .int), (e4, .int), (e5, .long), (e6, .boolean), (e7, .int), (e8, .int)] [(g0, .inr (1, [.int th, .ref b1, .ref b2, .ref b3, .ref b4, .ref b5, .ref b6, .ref b7, .ref b8, .int ob, .int co, .int tp])), (b1, .inl (e1, 301, .inl kd)), (b2, .inl (e2, 301, .inl zs)), (b3, .inl (e3, 301, .inl od)), (b4, .inl (e4, 12040, .inl lk)), (b5, .inl (e5, 12040, .inr (.inl nu))), (b6, .inl (e6, 301, .inl rb)), (b7, .inl (e7, 16, .inl rg)), (b8, .inl (e8, 301, .inl td))] sz)) (QcRead (0)) 0 0 (fun _ => False) := by
  refine Met.ofW (cc := cX1_isWrong) (maxL := 4) (ret := some .boolean) (by decide) rfl ?_
  intro p e s m args below meth c s₁ B hml hv
  obtain ⟨hargs, hsz, hP, hK, hD0⟩ := hv
  have hx := B.exec
  have hb := B.bytes
  have hr := B.returns
  have hts : ∀ w ∈ wb, w.before _ s = true := fun w h => atoms_spec (ws := wsX1_isWrong) B.pre w (List.mem_cons_of_mem _ h)
  have hown : s.vm.findClass RX1 = some m.cls := findClass_of_methodNamed B.named
  have hlocks := B.notSynchronized
  subst hsz
  have hD := hD0
  generalize hQ9 : MQ below (QcRead (0)) args s 0 0 (fun _ => False) = Q9
  have hl := lv_entry ([.ref g0, .int (nI o), .int (nI kk), .int i]) (n := 4) (Nat.le_of_ble_eq_true rfl)
  rw [show entryFrame m args 4 = _ from (congrArg (fun z => entryFrame m z 4) hargs).trans (lg_entry_eq m [.ref g0, .int (nI o), .int (nI kk), .int i] 4)]
  generalize (lg_sl ([.ref g0, .int (nI o), .int (nI kk), .int i]) ++ List.replicate (4 - (lg_sl ([.ref g0, .int (nI o), .int (nI kk), .int i])).length) Slot.unset).toArray = ls at hl ⊢
  have hl : lv_has ls 4 [(0, .ref g0), (1, .int (nI o)), (2, .int (nI kk)), (3, .int i)] := hl
  have hw := hW.2.1 o ho
  have hq := hQ.2.2.2.2.2 o ho
  refine lv_aload_n hx hb dX1_isWrong_0 rfl (lv_at hl 0 rfl) ?_
  refine va_get (D := (dC, dI)) (ci := 1) (v := .ref b1) (C := RX1) (T := TX1) (N := 12) hx hb hts inX1 hown hK hP 0 rfl rfl 1 (by decide) (hts _ bw_fl_X1_7) (fun _ h9 => h9) rfl dX1_isWrong_1 ?_
  refine lv_iload_n hx hb dX1_isWrong_4 rfl (lv_at hl 1 rfl) ?_
  refine hw_iald (j := o) hx hb hK hP 1 0 rfl rfl (rfl) (by omega) (by decide) dX1_isWrong_5 ?_
  refine hw_topi (y := nI (hp_k M o)) (hQ.2.2.2.1 o (by omega)) ?_
  refine lv_iload_n hx hb dX1_isWrong_6 rfl (lv_at hl 2 rfl) ?_
  refine lv_icmp_ne hx hb dX1_isWrong_7 (tgt := 24) (by decide) (fun hc => ?_) (fun hc => ?_)
  · exact absurd (by rw [hwr.1]) hc
  · skip
    refine lv_iload_n hx hb dX1_isWrong_10 rfl (lv_at hl 3 rfl) ?_
    refine lv_if_lt hx hb dX1_isWrong_11 (tgt := 24) (by decide) (fun hc => ?_) (fun hc => ?_)
    · exact absurd (Or.inl hc) hwr.2
    · skip
      refine lv_iload_n hx hb dX1_isWrong_14 rfl (lv_at hl 3 rfl) ?_
      refine lv_aload_n hx hb dX1_isWrong_15 rfl (lv_at hl 0 rfl) ?_
      refine va_get (D := (dC, dI)) (ci := 1) (v := .ref b2) (C := RX1) (T := TX1) (N := 12) hx hb hts inX1 hown hK hP 0 rfl rfl 2 (by decide) (hts _ bw_fl_X1_13) (fun _ h9 => h9) rfl dX1_isWrong_16 ?_
      refine lv_iload_n hx hb dX1_isWrong_19 rfl (lv_at hl 1 rfl) ?_
      refine hw_iald (j := o) hx hb hK hP 2 1 rfl rfl (rfl) (by omega) (by decide) dX1_isWrong_20 ?_
      refine hw_topi (y := nI (hp_z M o)) (hq.1) ?_
      refine lv_icmp_lt hx hb dX1_isWrong_21 (tgt := 28) (by decide) (fun hc => ?_) (fun hc => ?_)
      · skip
        refine lv_iconst (v := 0) hx hb dX1_isWrong_28 (by decide) ?_
        subst hQ9
        exact W.zret (v := 0) hx hb hr rfl (fun t ht hWm => ⟨rfl, ht⟩) (fun q h => nomatch h) dX1_isWrong_29
      · exact absurd (Or.inr (Int32.not_lt.mp hc)) hwr.2
end
section
def hp_tt (S T : List Nat) (o : Nat) : List Nat := if o = 0 ∨ o ∈ S then T else T ++ [o]
theorem hp_nt_y {S : List Nat} {o : Nat} (h : o = 0 ∨ o ∈ S) : hp_nt S o = S := if_pos h
theorem hp_nt_n {S : List Nat} {o : Nat} (h : ¬ (o = 0 ∨ o ∈ S)) : hp_nt S o = S ++ [o] := if_neg h
theorem hp_tt_y {S T : List Nat} {o : Nat} (h : o = 0 ∨ o ∈ S) : hp_tt S T o = T := if_pos h
theorem hp_tt_n {S T : List Nat} {o : Nat} (h : ¬ (o = 0 ∨ o ∈ S)) : hp_tt S T o = T ++ [o] := if_neg h
theorem hp_Y_reach {M : hp_S} {S T : List Nat} {o i x : Nat} (h : hp_Y M S T o i) (hx : x = 0 ∨ hp_R M x) : hp_Y M (hp_nt S x) (hp_tt S T x) o i := by
  by_cases hc : x = 0 ∨ x ∈ S
  · rw [hp_nt_y hc, hp_tt_y hc]; exact h
  · rw [hp_nt_n hc, hp_tt_n hc]
    exact hp_Y_push h (hx.resolve_left (fun e => hc (Or.inl e)))
theorem hp_nt_self {S : List Nat} {x : Nat} (h : x ≠ 0) : x ∈ hp_nt S x := (hp_nt_in S x x).mpr (Or.inr ⟨rfl, h⟩)
theorem hp_nt_old {S : List Nat} {x y : Nat} (h : y ∈ S) : y ∈ hp_nt S x := (hp_nt_in S x y).mpr (Or.inl h)
theorem hp_last {T : List Nat} (h : 0 < T.length) : ∃ T2 o, T = T2 ++ [o] := by
  have hn : T ≠ [] := fun e => by rw [e] at h; exact absurd h (Nat.lt_irrefl _)
  exact ⟨T.dropLast, T.getLast hn, (List.dropLast_concat_getLast hn).symm⟩
/-- what the marks still to come cost -/
theorem hp_cost {S T : List Nat} {x : Nat} (h : (hp_nt S x).length ≤ 300) (hS : S.length ≤ 300) : 2 * (300 - (hp_nt S x).length) + (hp_tt S T x).length ≤ 2 * (300 - S.length) + T.length := by
  by_cases hc : x = 0 ∨ x ∈ S
  · rw [hp_nt_y hc, hp_tt_y hc]; exact Nat.le_refl _
  · rw [hp_nt_n hc] at h ⊢
    rw [hp_tt_n hc]
    simp only [List.length_append, List.length_cons, List.length_nil] at h ⊢
    omega
theorem hp_40i (o i : Nat) : (40 : Int32) * nI o + nI i = nI (40 * o + i) := by
  rw [show (40 : Int32) = nI 40 from by decide +kernel, pk_mul, nI_add]
theorem hp_40o (o : Nat) : (40 : Int32) * nI o = nI (40 * o) := by
  rw [show (40 : Int32) = nI 40 from by decide +kernel, pk_mul]
theorem hp_gone_t (M : hp_S) (pre : List Nat) {o : Nat} (h : hp_b M o = true) : (pre ++ [o]).length - ((pre ++ [o]).filter (hp_b M)).length = pre.length - (pre.filter (hp_b M)).length := by
  rw [hp_filter_t M pre h]
  simp only [List.length_append, List.length_cons, List.length_nil]; omega
theorem hp_gone_f (M : hp_S) (pre : List Nat) {o : Nat} (h : ¬ hp_b M o = true) : (pre ++ [o]).length - ((pre ++ [o]).filter (hp_b M)).length = pre.length - (pre.filter (hp_b M)).length + 1 := by
  rw [hp_filter_f M pre h]
  have := hp_filter_len (hp_b M) pre
  simp only [List.length_append, List.length_cons, List.length_nil]; omega
/-- the references of a kept object, behind the sweep's look at it -/
def hp_lw (M : hp_S) (o : Nat) (lk lk' : Nat → Int32) : Prop := (∀ x i, x ≠ o → i < 40 → lk' (40 * x + i) = lk (40 * x + i)) ∧ (hp_k M o ≠ 2 → ∀ i, i < hp_z M o → lk' (40 * o + i) = nI (hp_l (hp_col M) o i))
theorem hp_lw_k {M : hp_S} {o : Nat} {lk : Nat → Int32} (h : hp_k M o ≠ 3) (hl : hp_k M o ≠ 2 → ∀ i, i < hp_z M o → lk (40 * o + i) = nI (hp_l M o i)) : hp_lw M o lk lk :=
  ⟨fun _ _ _ _ => rfl, fun h2 i hi => by
    rw [hl h2 i hi]
    have e : hp_l (hp_col M) o i = hp_l M o i := if_neg (fun z => h z.1)
    rw [e]⟩
theorem hp_lw_t {M : hp_S} (hW : hp_W M) {o : Nat} {lk : Nat → Int32} (ho : o ∈ hp_L M) (h : hp_k M o = 3) (hl : hp_k M o ≠ 2 → ∀ i, i < hp_z M o → lk (40 * o + i) = nI (hp_l M o i)) (hb : hp_b M (hp_l M o 0) = true) : hp_lw M o lk lk :=
  ⟨fun _ _ _ _ => rfl, fun h2 i hi => by
    have hz := (hW.2.1 o ho).2.2.2.2.2 h
    have i0 : i = 0 := by omega
    subst i0
    rw [hl h2 0 hi]
    have e : hp_l (hp_col M) o 0 = hp_l M o 0 := if_neg (fun z => by rw [hb] at z; cases z.2)
    rw [e]⟩
theorem hp_lw_f {M : hp_S} (hW : hp_W M) {o : Nat} {lk : Nat → Int32} (ho : o ∈ hp_L M) (h : hp_k M o = 3) (hb : ¬ hp_b M (hp_l M o 0) = true) : hp_lw M o lk (upd lk (40 * o) 0) :=
  ⟨fun x i hx hi => pk_un (by omega), fun h2 i hi => by
    have hz := (hW.2.1 o ho).2.2.2.2.2 h
    have i0 : i = 0 := by omega
    subst i0
    have hb2 : hp_b M (hp_l M o 0) = false := by cases e : hp_b M (hp_l M o 0); · rfl
                                                 · exact absurd e hb
    have e : hp_l (hp_col M) o 0 = 0 := if_pos ⟨h, hb2⟩
    rw [e, Nat.add_zero, pk_us, nI_0]⟩
end
section
set_option maxHeartbeats 4000000 in
set_option maxRecDepth 100000 in
theorem c_X1_reach (l : Launch) (dC : Nat → ClassId) (dI : Nat → Nat → Nat) (g0 b1 b2 b3 b4 b5 b6 b7 b8 : Nat) (e1 e2 e3 e4 e5 e6 e7 e8 : ClassId) (th : Int32) (kd zs od lk : Nat → Int32) (nu : Nat → Int64) (rb rg td : Nat → Int32) (ob co tp : Int32) (sz : Nat) (M : hp_S) (hW : hp_W M) (S T : List Nat) (hI : hp_K M S T rb td tp) (o : Nat) (ho : o = 0 ∨ o ∈ hp_L M) : Met l yX1_reach wsX1_reach ({ frames := 0, cells := 0, slots := 0, locals := 0 }) (va_Pc [.ref g0, .int (nI o)] (hw_pre (dC, dI) vwCl [(e1, .int), (e2, .int), (e3, .int), (e4, .int), (e5, .long), (e6, .boolean), (e7, .int), (e8, .int)] [(g0, .inr (1, [.int th, .ref b1, .ref b2, .ref b3, .ref b4, .ref b5, .ref b6, .ref b7, .ref b8, .int ob, .int co, .int tp])), (b1, .inl (e1, 301, .inl kd)), (b2, .inl (e2, 301, .inl zs)), (b3, .inl (e3, 301, .inl od)), (b4, .inl (e4, 12040, .inl lk)), (b5, .inl (e5, 12040, .inr (.inl nu))), (b6, .inl (e6, 301, .inl rb)), (b7, .inl (e7, 16, .inl rg)), (b8, .inl (e8, 301, .inl td))] sz)) (va_Qv (fun u : (Nat → Int32) × (Nat → Int32) × Int32 => hp_K M (hp_nt S o) (hp_tt S T o) u.1 u.2.1 u.2.2) (fun u t => hw_B (dC, dI) vwCl [(e1, .int), (e2, .int), (e3, .int), (e4, .int), (e5, .long), (e6, .boolean), (e7, .int), (e8, .int)] (va_A [(g0, .inr (1, [.int th, .ref b1, .ref b2, .ref b3, .ref b4, .ref b5, .ref b6, .ref b7, .ref b8, .int ob, .int co, .int tp])), (b1, .inl (e1, 301, .inl kd)), (b2, .inl (e2, 301, .inl zs)), (b3, .inl (e3, 301, .inl od)), (b4, .inl (e4, 12040, .inl lk)), (b5, .inl (e5, 12040, .inr (.inl nu))), (b6, .inl (e6, 301, .inl rb)), (b7, .inl (e7, 16, .inl rg)), (b8, .inl (e8, 301, .inl td))] sz) ((fun u : (Nat → Int32) × (Nat → Int32) × Int32 => [(g0, .inr (1, [.int th, .ref b1, .ref b2, .ref b3, .ref b4, .ref b5, .ref b6, .ref b7, .ref b8, .int ob, .int co, .int u.2.2])), (b1, .inl (e1, 301, .inl kd)), (b2, .inl (e2, 301, .inl zs)), (b3, .inl (e3, 301, .inl od)), (b4, .inl (e4, 12040, .inl lk)), (b5, .inl (e5, 12040, .inr (.inl nu))), (b6, .inl (e6, 301, .inl u.1)), (b7, .inl (e7, 16, .inl rg)), (b8, .inl (e8, 301, .inl u.2.1))]) u) t) (va_A [(g0, .inr (1, [.int th, .ref b1, .ref b2, .ref b3, .ref b4, .ref b5, .ref b6, .ref b7, .ref b8, .int ob, .int co, .int tp])), (b1, .inl (e1, 301, .inl kd)), (b2, .inl (e2, 301, .inl zs)), (b3, .inl (e3, 301, .inl od)), (b4, .inl (e4, 12040, .inl lk)), (b5, .inl (e5, 12040, .inr (.inl nu))), (b6, .inl (e6, 301, .inl rb)), (b7, .inl (e7, 16, .inl rg)), (b8, .inl (e8, 301, .inl td))] sz)) 0 0 (va_A [(g0, .inr (1, [.int th, .ref b1, .ref b2, .ref b3, .ref b4, .ref b5, .ref b6, .ref b7, .ref b8, .int ob, .int co, .int tp])), (b1, .inl (e1, 301, .inl kd)), (b2, .inl (e2, 301, .inl zs)), (b3, .inl (e3, 301, .inl od)), (b4, .inl (e4, 12040, .inl lk)), (b5, .inl (e5, 12040, .inr (.inl nu))), (b6, .inl (e6, 301, .inl rb)), (b7, .inl (e7, 16, .inl rg)), (b8, .inl (e8, 301, .inl td))] sz) := by
  refine Met.ofW (cc := cX1_reach) (maxL := 2) (ret := none) (by decide) rfl ?_
  intro p e s m args below meth c s₁ B hml hv
  obtain ⟨hargs, hsz, hP, hK, hD0⟩ := hv
  have hx := B.exec
  have hb := B.bytes
  have hr := B.returns
  have hts : ∀ w ∈ wb, w.before _ s = true := fun w h => atoms_spec (ws := wsX1_reach) B.pre w (List.mem_cons_of_mem _ h)
  have hown : s.vm.findClass RX1 = some m.cls := findClass_of_methodNamed B.named
  have hlocks := B.notSynchronized
  subst hsz
  have hD := hD0.self (sz := s.heap.size)
  generalize hAe : va_A [(g0, .inr (1, [.int th, .ref b1, .ref b2, .ref b3, .ref b4, .ref b5, .ref b6, .ref b7, .ref b8, .int ob, .int co, .int tp])), (b1, .inl (e1, 301, .inl kd)), (b2, .inl (e2, 301, .inl zs)), (b3, .inl (e3, 301, .inl od)), (b4, .inl (e4, 12040, .inl lk)), (b5, .inl (e5, 12040, .inr (.inl nu))), (b6, .inl (e6, 301, .inl rb)), (b7, .inl (e7, 16, .inl rg)), (b8, .inl (e8, 301, .inl td))] s.heap.size = A at hD ⊢
  have hA : ∀ q : Nat, s.heap.size ≤ q → A q := fun q h => by rw [← hAe]; exact Or.inr h
  have hS : va_S A s.heap s.heap [] := va_S.rf
  generalize hQ9 : MQ below (va_Qv (fun u : (Nat → Int32) × (Nat → Int32) × Int32 => hp_K M (hp_nt S o) (hp_tt S T o) u.1 u.2.1 u.2.2) (fun u t => hw_B (dC, dI) vwCl [(e1, .int), (e2, .int), (e3, .int), (e4, .int), (e5, .long), (e6, .boolean), (e7, .int), (e8, .int)] A ((fun u : (Nat → Int32) × (Nat → Int32) × Int32 => [(g0, .inr (1, [.int th, .ref b1, .ref b2, .ref b3, .ref b4, .ref b5, .ref b6, .ref b7, .ref b8, .int ob, .int co, .int u.2.2])), (b1, .inl (e1, 301, .inl kd)), (b2, .inl (e2, 301, .inl zs)), (b3, .inl (e3, 301, .inl od)), (b4, .inl (e4, 12040, .inl lk)), (b5, .inl (e5, 12040, .inr (.inl nu))), (b6, .inl (e6, 301, .inl u.1)), (b7, .inl (e7, 16, .inl rg)), (b8, .inl (e8, 301, .inl u.2.1))]) u) t) A) args s 0 0 A = Q9
  have hl := lv_entry ([.ref g0, .int (nI o)]) (n := 2) (Nat.le_of_ble_eq_true rfl)
  rw [show entryFrame m args 2 = _ from (congrArg (fun z => entryFrame m z 2) hargs).trans (lg_entry_eq m [.ref g0, .int (nI o)] 2)]
  generalize (lg_sl ([.ref g0, .int (nI o)]) ++ List.replicate (2 - (lg_sl ([.ref g0, .int (nI o)])).length) Slot.unset).toArray = ls at hl ⊢
  have hl : lv_has ls 2 [(0, .ref g0), (1, .int (nI o))] := hl
  obtain ⟨H, hH⟩ : ∃ H, H = s.heap := ⟨_, rfl⟩
  rw [← hH] at hP
  have hS : va_S A s.heap H [] := by rw [hH]; exact hS
  rw [← hH]
  generalize ([] : List Loc) = locs at hS ⊢
  have hlen := hp_K_len hW hI
  have ho3 : o ≤ 300 := ho.elim (fun h9 => by omega) (fun h9 => (hW.2.1 o h9).2.1)
  refine lv_iload_n hx hb dX1_reach_0 rfl (lv_at hl 1 rfl) ?_
  refine lv_if_eq hx hb dX1_reach_1 (tgt := 13) (by decide) (fun hc => ?_) (fun hc => ?_)
  · have hc2 : o = 0 ∨ o ∈ S := Or.inl ((nI_eq (b := 0) (by omega) (by decide)).mp (hc.trans nI_0.symm))
    subst hQ9
    exact W.vret hx hb hr (fun t ht hWm => ⟨⟨(rb, td, tp), rfl, by rw [hp_nt_y hc2, hp_tt_y hc2]; exact hI, by rw [ht]; exact hP, va_K.moved hWm.alike hK, hD⟩, hS.F ht⟩) hS.2.2 dX1_reach_13
  · have h00 : o ≠ 0 := fun h9 => hc (by rw [h9]; exact nI_0)
    have hoL := ho.resolve_left h00
    refine lv_aload_n hx hb dX1_reach_4 rfl (lv_at hl 0 rfl) ?_
    refine va_get (D := (dC, dI)) (ci := 1) (v := .ref b6) (C := RX1) (T := TX1) (N := 12) hx hb hts inX1 hown hK hP 0 rfl rfl 6 (by decide) (hts _ bw_fl_X1_26) (fun _ h9 => h9) rfl dX1_reach_5 ?_
    refine lv_iload_n hx hb dX1_reach_8 rfl (lv_at hl 1 rfl) ?_
    refine hw_zald (j := o) hx hb hK hP 6 5 rfl rfl (rfl) (by omega) (by decide) dX1_reach_9 ?_
    refine lv_if_eq hx hb dX1_reach_10 (tgt := 14) (by decide) (fun hc => ?_) (fun hc => ?_)
    · have hnS : o ∉ S := fun h9 => hp_10 ((by rw [hI.2.2.2.2.2.2 o ho3, if_pos h9] : rb o = 1).symm.trans hc)
      have hc2 : ¬ (o = 0 ∨ o ∈ S) := fun h9 => h9.elim h00 hnS
      have hadd := hp_K_add hI hoL hnS
      refine lv_aload_n hx hb dX1_reach_14 rfl (lv_at hl 0 rfl) ?_
      refine va_get (D := (dC, dI)) (ci := 1) (v := .ref b6) (C := RX1) (T := TX1) (N := 12) hx hb hts inX1 hown hK hP 0 rfl rfl 6 (by decide) (hts _ bw_fl_X1_26) (fun _ h9 => h9) rfl dX1_reach_15 ?_
      refine lv_iload_n hx hb dX1_reach_18 rfl (lv_at hl 1 rfl) ?_
      refine lv_iconst (v := 1) hx hb dX1_reach_19 (by decide) ?_
      refine hw_zast (j := o) hx hb hK hP hD hS 6 5 rfl rfl (rfl) (by omega) (by decide) (by decide) dX1_reach_20 (fun H locs hP hD hS => ?_)
      have hP : va_P (dC, dI) vwCl [(g0, .inr (1, [.int th, .ref b1, .ref b2, .ref b3, .ref b4, .ref b5, .ref b6, .ref b7, .ref b8, .int ob, .int co, .int tp])), (b1, .inl (e1, 301, .inl kd)), (b2, .inl (e2, 301, .inl zs)), (b3, .inl (e3, 301, .inl od)), (b4, .inl (e4, 12040, .inl lk)), (b5, .inl (e5, 12040, .inr (.inl nu))), (b6, .inl (e6, 301, .inl (upd rb o 1))), (b7, .inl (e7, 16, .inl rg)), (b8, .inl (e8, 301, .inl td))] H := hP
      have hD : va_D A [(g0, .inr (1, [.int th, .ref b1, .ref b2, .ref b3, .ref b4, .ref b5, .ref b6, .ref b7, .ref b8, .int ob, .int co, .int tp])), (b1, .inl (e1, 301, .inl kd)), (b2, .inl (e2, 301, .inl zs)), (b3, .inl (e3, 301, .inl od)), (b4, .inl (e4, 12040, .inl lk)), (b5, .inl (e5, 12040, .inr (.inl nu))), (b6, .inl (e6, 301, .inl (upd rb o 1))), (b7, .inl (e7, 16, .inl rg)), (b8, .inl (e8, 301, .inl td))] := hD
      refine lv_aload_n hx hb dX1_reach_21 rfl (lv_at hl 0 rfl) ?_
      refine va_get (D := (dC, dI)) (ci := 1) (v := .ref b8) (C := RX1) (T := TX1) (N := 12) hx hb hts inX1 hown hK hP 0 rfl rfl 8 (by decide) (hts _ bw_fl_X1_33) (fun _ h9 => h9) rfl dX1_reach_22 ?_
      refine lv_aload_n hx hb dX1_reach_25 rfl (lv_at hl 0 rfl) ?_
      refine va_get (D := (dC, dI)) (ci := 1) (v := .int tp) (C := RX1) (T := TX1) (N := 12) hx hb hts inX1 hown hK hP 0 rfl rfl 11 (by decide) (hts _ bw_fl_X1_47) (fun _ h9 => h9) rfl dX1_reach_26 ?_
      refine lv_iload_n hx hb dX1_reach_29 rfl (lv_at hl 1 rfl) ?_
      refine hw_iast (j := T.length) hx hb hK hP hD hS 8 7 rfl rfl (hI.1) (by omega) (by decide) dX1_reach_30 (fun H locs hP hD hS => ?_)
      have hP : va_P (dC, dI) vwCl [(g0, .inr (1, [.int th, .ref b1, .ref b2, .ref b3, .ref b4, .ref b5, .ref b6, .ref b7, .ref b8, .int ob, .int co, .int tp])), (b1, .inl (e1, 301, .inl kd)), (b2, .inl (e2, 301, .inl zs)), (b3, .inl (e3, 301, .inl od)), (b4, .inl (e4, 12040, .inl lk)), (b5, .inl (e5, 12040, .inr (.inl nu))), (b6, .inl (e6, 301, .inl (upd rb o 1))), (b7, .inl (e7, 16, .inl rg)), (b8, .inl (e8, 301, .inl (upd td T.length (nI o))))] H := hP
      have hD : va_D A [(g0, .inr (1, [.int th, .ref b1, .ref b2, .ref b3, .ref b4, .ref b5, .ref b6, .ref b7, .ref b8, .int ob, .int co, .int tp])), (b1, .inl (e1, 301, .inl kd)), (b2, .inl (e2, 301, .inl zs)), (b3, .inl (e3, 301, .inl od)), (b4, .inl (e4, 12040, .inl lk)), (b5, .inl (e5, 12040, .inr (.inl nu))), (b6, .inl (e6, 301, .inl (upd rb o 1))), (b7, .inl (e7, 16, .inl rg)), (b8, .inl (e8, 301, .inl (upd td T.length (nI o))))] := hD
      refine lv_aload_n hx hb dX1_reach_31 rfl (lv_at hl 0 rfl) ?_
      refine lv_dup hx hb dX1_reach_32 rfl ?_
      refine va_get (D := (dC, dI)) (ci := 1) (v := .int tp) (C := RX1) (T := TX1) (N := 12) hx hb hts inX1 hown hK hP 0 rfl rfl 11 (by decide) (hts _ bw_fl_X1_47) (fun _ h9 => h9) rfl dX1_reach_33 ?_
      refine lv_iconst (v := 1) hx hb dX1_reach_36 (by decide) ?_
      refine lv_iadd hx hb dX1_reach_37 ?_
      refine hw_topi (y := nI (T.length + 1)) (by rw [hI.1]; exact nI_1 _) ?_
      refine va_put (D := (dC, dI)) (ci := 1) (v := .int (nI (T.length + 1))) (ty := .int) (C := RX1) (T := TX1) (N := 12) hx hb hts inX1 tyX1 tyX1_ok nmX1 hown hK hP hD hS 0 rfl rfl 11 (by decide) (hts _ bw_fl_X1_47) (fun _ h9 => h9) rfl (by decide +kernel) rfl rfl (Nat.le_of_ble_eq_true rfl) dX1_reach_38 (fun H locs hP hD hS => ?_)
      have hP : va_P (dC, dI) vwCl [(g0, .inr (1, [.int th, .ref b1, .ref b2, .ref b3, .ref b4, .ref b5, .ref b6, .ref b7, .ref b8, .int ob, .int co, .int (nI (T.length + 1))])), (b1, .inl (e1, 301, .inl kd)), (b2, .inl (e2, 301, .inl zs)), (b3, .inl (e3, 301, .inl od)), (b4, .inl (e4, 12040, .inl lk)), (b5, .inl (e5, 12040, .inr (.inl nu))), (b6, .inl (e6, 301, .inl (upd rb o 1))), (b7, .inl (e7, 16, .inl rg)), (b8, .inl (e8, 301, .inl (upd td T.length (nI o))))] H := hP
      have hD : va_D A [(g0, .inr (1, [.int th, .ref b1, .ref b2, .ref b3, .ref b4, .ref b5, .ref b6, .ref b7, .ref b8, .int ob, .int co, .int (nI (T.length + 1))])), (b1, .inl (e1, 301, .inl kd)), (b2, .inl (e2, 301, .inl zs)), (b3, .inl (e3, 301, .inl od)), (b4, .inl (e4, 12040, .inl lk)), (b5, .inl (e5, 12040, .inr (.inl nu))), (b6, .inl (e6, 301, .inl (upd rb o 1))), (b7, .inl (e7, 16, .inl rg)), (b8, .inl (e8, 301, .inl (upd td T.length (nI o))))] := hD
      subst hQ9
      exact W.vret hx hb hr (fun t ht hWm => ⟨⟨((upd rb o 1), (upd td T.length (nI o)), (nI (T.length + 1))), rfl, by rw [hp_nt_n hc2, hp_tt_n hc2]; exact hadd, by rw [ht]; exact hP, va_K.moved hWm.alike hK, hD⟩, hS.F ht⟩) hS.2.2 dX1_reach_41
    · have hc2 : o = 0 ∨ o ∈ S := Or.inr (Classical.byContradiction fun h9 => hc (by rw [hI.2.2.2.2.2.2 o ho3, if_neg h9]))
      subst hQ9
      exact W.vret hx hb hr (fun t ht hWm => ⟨⟨(rb, td, tp), rfl, by rw [hp_nt_y hc2, hp_tt_y hc2]; exact hI, by rw [ht]; exact hP, va_K.moved hWm.alike hK, hD⟩, hS.F ht⟩) hS.2.2 dX1_reach_13

set_option maxHeartbeats 4000000 in
set_option maxRecDepth 100000 in
theorem c_X1_collect (l : Launch) (dC : Nat → ClassId) (dI : Nat → Nat → Nat) (g0 b1 b2 b3 b4 b5 b6 b7 b8 : Nat) (e1 e2 e3 e4 e5 e6 e7 e8 : ClassId) (th : Int32) (kd zs od lk : Nat → Int32) (nu : Nat → Int64) (rb rg td : Nat → Int32) (ob co tp : Int32) (sz : Nat) (M : hp_S) (hW : hp_W M) (hQ : hp_Q M kd zs od lk nu rg ob co) : Met l yX1_collect wsX1_collect ({ frames := 1, cells := 0, slots := 0, locals := 21 }) (va_Pc [.ref g0] (hw_pre (dC, dI) vwCl [(e1, .int), (e2, .int), (e3, .int), (e4, .int), (e5, .long), (e6, .boolean), (e7, .int), (e8, .int)] [(g0, .inr (1, [.int th, .ref b1, .ref b2, .ref b3, .ref b4, .ref b5, .ref b6, .ref b7, .ref b8, .int ob, .int co, .int tp])), (b1, .inl (e1, 301, .inl kd)), (b2, .inl (e2, 301, .inl zs)), (b3, .inl (e3, 301, .inl od)), (b4, .inl (e4, 12040, .inl lk)), (b5, .inl (e5, 12040, .inr (.inl nu))), (b6, .inl (e6, 301, .inl rb)), (b7, .inl (e7, 16, .inl rg)), (b8, .inl (e8, 301, .inl td))] sz)) (va_Qi (fun (r : Int32) (u : Int32 × (Nat → Int32) × (Nat → Int32) × (Nat → Int32) × (Nat → Int32) × (Nat → Int32) × Int32 × Int32 × Int32) => r = nI ((hp_L M).length - (hp_L (hp_col M)).length) ∧ hp_Q (hp_col M) u.2.1 zs u.2.2.1 u.2.2.2.1 nu rg u.2.2.2.2.2.2.1 u.2.2.2.2.2.2.2.1 ∧ u.1 = 0) (fun u t => hw_B (dC, dI) vwCl [(e1, .int), (e2, .int), (e3, .int), (e4, .int), (e5, .long), (e6, .boolean), (e7, .int), (e8, .int)] (va_A [(g0, .inr (1, [.int th, .ref b1, .ref b2, .ref b3, .ref b4, .ref b5, .ref b6, .ref b7, .ref b8, .int ob, .int co, .int tp])), (b1, .inl (e1, 301, .inl kd)), (b2, .inl (e2, 301, .inl zs)), (b3, .inl (e3, 301, .inl od)), (b4, .inl (e4, 12040, .inl lk)), (b5, .inl (e5, 12040, .inr (.inl nu))), (b6, .inl (e6, 301, .inl rb)), (b7, .inl (e7, 16, .inl rg)), (b8, .inl (e8, 301, .inl td))] sz) ((fun u : Int32 × (Nat → Int32) × (Nat → Int32) × (Nat → Int32) × (Nat → Int32) × (Nat → Int32) × Int32 × Int32 × Int32 => [(g0, .inr (1, [.int u.1, .ref b1, .ref b2, .ref b3, .ref b4, .ref b5, .ref b6, .ref b7, .ref b8, .int u.2.2.2.2.2.2.1, .int u.2.2.2.2.2.2.2.1, .int u.2.2.2.2.2.2.2.2])), (b1, .inl (e1, 301, .inl u.2.1)), (b2, .inl (e2, 301, .inl zs)), (b3, .inl (e3, 301, .inl u.2.2.1)), (b4, .inl (e4, 12040, .inl u.2.2.2.1)), (b5, .inl (e5, 12040, .inr (.inl nu))), (b6, .inl (e6, 301, .inl u.2.2.2.2.1)), (b7, .inl (e7, 16, .inl rg)), (b8, .inl (e8, 301, .inl u.2.2.2.2.2.1))]) u) t) (va_A [(g0, .inr (1, [.int th, .ref b1, .ref b2, .ref b3, .ref b4, .ref b5, .ref b6, .ref b7, .ref b8, .int ob, .int co, .int tp])), (b1, .inl (e1, 301, .inl kd)), (b2, .inl (e2, 301, .inl zs)), (b3, .inl (e3, 301, .inl od)), (b4, .inl (e4, 12040, .inl lk)), (b5, .inl (e5, 12040, .inr (.inl nu))), (b6, .inl (e6, 301, .inl rb)), (b7, .inl (e7, 16, .inl rg)), (b8, .inl (e8, 301, .inl td))] sz)) 0 0 (va_A [(g0, .inr (1, [.int th, .ref b1, .ref b2, .ref b3, .ref b4, .ref b5, .ref b6, .ref b7, .ref b8, .int ob, .int co, .int tp])), (b1, .inl (e1, 301, .inl kd)), (b2, .inl (e2, 301, .inl zs)), (b3, .inl (e3, 301, .inl od)), (b4, .inl (e4, 12040, .inl lk)), (b5, .inl (e5, 12040, .inr (.inl nu))), (b6, .inl (e6, 301, .inl rb)), (b7, .inl (e7, 16, .inl rg)), (b8, .inl (e8, 301, .inl td))] sz) := by
  refine Met.ofW (cc := cX1_collect) (maxL := 5) (ret := some .int) (by decide) rfl ?_
  intro p e s m args below meth c s₁ B hml hv
  obtain ⟨hargs, hsz, hP, hK, hD0⟩ := hv
  have hx := B.exec
  have hb := B.bytes
  have hr := B.returns
  have hts : ∀ w ∈ wb, w.before _ s = true := fun w h => atoms_spec (ws := wsX1_collect) B.pre w (List.mem_cons_of_mem _ h)
  have hown : s.vm.findClass RX1 = some m.cls := findClass_of_methodNamed B.named
  have hlocks := B.notSynchronized
  subst hsz
  have hD := hD0.self (sz := s.heap.size)
  generalize hAe : va_A [(g0, .inr (1, [.int th, .ref b1, .ref b2, .ref b3, .ref b4, .ref b5, .ref b6, .ref b7, .ref b8, .int ob, .int co, .int tp])), (b1, .inl (e1, 301, .inl kd)), (b2, .inl (e2, 301, .inl zs)), (b3, .inl (e3, 301, .inl od)), (b4, .inl (e4, 12040, .inl lk)), (b5, .inl (e5, 12040, .inr (.inl nu))), (b6, .inl (e6, 301, .inl rb)), (b7, .inl (e7, 16, .inl rg)), (b8, .inl (e8, 301, .inl td))] s.heap.size = A at hD ⊢
  have hA : ∀ q : Nat, s.heap.size ≤ q → A q := fun q h => by rw [← hAe]; exact Or.inr h
  have hS : va_S A s.heap s.heap [] := va_S.rf
  generalize hQ9 : MQ below (va_Qi (fun (r : Int32) (u : Int32 × (Nat → Int32) × (Nat → Int32) × (Nat → Int32) × (Nat → Int32) × (Nat → Int32) × Int32 × Int32 × Int32) => r = nI ((hp_L M).length - (hp_L (hp_col M)).length) ∧ hp_Q (hp_col M) u.2.1 zs u.2.2.1 u.2.2.2.1 nu rg u.2.2.2.2.2.2.1 u.2.2.2.2.2.2.2.1 ∧ u.1 = 0) (fun u t => hw_B (dC, dI) vwCl [(e1, .int), (e2, .int), (e3, .int), (e4, .int), (e5, .long), (e6, .boolean), (e7, .int), (e8, .int)] A ((fun u : Int32 × (Nat → Int32) × (Nat → Int32) × (Nat → Int32) × (Nat → Int32) × (Nat → Int32) × Int32 × Int32 × Int32 => [(g0, .inr (1, [.int u.1, .ref b1, .ref b2, .ref b3, .ref b4, .ref b5, .ref b6, .ref b7, .ref b8, .int u.2.2.2.2.2.2.1, .int u.2.2.2.2.2.2.2.1, .int u.2.2.2.2.2.2.2.2])), (b1, .inl (e1, 301, .inl u.2.1)), (b2, .inl (e2, 301, .inl zs)), (b3, .inl (e3, 301, .inl u.2.2.1)), (b4, .inl (e4, 12040, .inl u.2.2.2.1)), (b5, .inl (e5, 12040, .inr (.inl nu))), (b6, .inl (e6, 301, .inl u.2.2.2.2.1)), (b7, .inl (e7, 16, .inl rg)), (b8, .inl (e8, 301, .inl u.2.2.2.2.2.1))]) u) t) A) args s 0 0 A = Q9
  have hl := lv_entry ([.ref g0]) (n := 5) (Nat.le_of_ble_eq_true rfl)
  rw [show entryFrame m args 5 = _ from (congrArg (fun z => entryFrame m z 5) hargs).trans (lg_entry_eq m [.ref g0] 5)]
  generalize (lg_sl ([.ref g0]) ++ List.replicate (5 - (lg_sl ([.ref g0])).length) Slot.unset).toArray = ls at hl ⊢
  have hl : lv_has ls 5 [(0, .ref g0)] := hl
  obtain ⟨H, hH⟩ : ∃ H, H = s.heap := ⟨_, rfl⟩
  rw [← hH] at hP
  have hS : va_S A s.heap H [] := by rw [hH]; exact hS
  rw [← hH]
  generalize ([] : List Loc) = locs at hS ⊢
  refine lv_aload_n hx hb dX1_collect_0 rfl (lv_at hl 0 rfl) ?_
  refine lv_iconst (v := 0) hx hb dX1_collect_1 (by decide) ?_
  refine va_put (D := (dC, dI)) (ci := 1) (v := .int 0) (ty := .int) (C := RX1) (T := TX1) (N := 12) hx hb hts inX1 tyX1 tyX1_ok nmX1 hown hK hP hD hS 0 rfl rfl 0 (by decide) (hts _ bw_fl_X1_36) (fun _ h9 => h9) rfl (by decide +kernel) rfl rfl (Nat.le_of_ble_eq_true rfl) dX1_collect_2 (fun H locs hP hD hS => ?_)
  have hP : va_P (dC, dI) vwCl [(g0, .inr (1, [.int 0, .ref b1, .ref b2, .ref b3, .ref b4, .ref b5, .ref b6, .ref b7, .ref b8, .int ob, .int co, .int tp])), (b1, .inl (e1, 301, .inl kd)), (b2, .inl (e2, 301, .inl zs)), (b3, .inl (e3, 301, .inl od)), (b4, .inl (e4, 12040, .inl lk)), (b5, .inl (e5, 12040, .inr (.inl nu))), (b6, .inl (e6, 301, .inl rb)), (b7, .inl (e7, 16, .inl rg)), (b8, .inl (e8, 301, .inl td))] H := hP
  have hD : va_D A [(g0, .inr (1, [.int 0, .ref b1, .ref b2, .ref b3, .ref b4, .ref b5, .ref b6, .ref b7, .ref b8, .int ob, .int co, .int tp])), (b1, .inl (e1, 301, .inl kd)), (b2, .inl (e2, 301, .inl zs)), (b3, .inl (e3, 301, .inl od)), (b4, .inl (e4, 12040, .inl lk)), (b5, .inl (e5, 12040, .inr (.inl nu))), (b6, .inl (e6, 301, .inl rb)), (b7, .inl (e7, 16, .inl rg)), (b8, .inl (e8, 301, .inl td))] := hD
  refine lv_aload_n hx hb dX1_collect_5 rfl (lv_at hl 0 rfl) ?_
  refine lv_dup hx hb dX1_collect_6 rfl ?_
  refine va_get (D := (dC, dI)) (ci := 1) (v := .int co) (C := RX1) (T := TX1) (N := 12) hx hb hts inX1 hown hK hP 0 rfl rfl 10 (by decide) (hts _ bw_fl_X1_50) (fun _ h9 => h9) rfl dX1_collect_7 ?_
  refine lv_iconst (v := 1) hx hb dX1_collect_10 (by decide) ?_
  refine lv_iadd hx hb dX1_collect_11 ?_
  refine va_put (D := (dC, dI)) (ci := 1) (v := .int (co + 1)) (ty := .int) (C := RX1) (T := TX1) (N := 12) hx hb hts inX1 tyX1 tyX1_ok nmX1 hown hK hP hD hS 0 rfl rfl 10 (by decide) (hts _ bw_fl_X1_50) (fun _ h9 => h9) rfl (by decide +kernel) rfl rfl (Nat.le_of_ble_eq_true rfl) dX1_collect_12 (fun H locs hP hD hS => ?_)
  have hP : va_P (dC, dI) vwCl [(g0, .inr (1, [.int 0, .ref b1, .ref b2, .ref b3, .ref b4, .ref b5, .ref b6, .ref b7, .ref b8, .int ob, .int (co + 1), .int tp])), (b1, .inl (e1, 301, .inl kd)), (b2, .inl (e2, 301, .inl zs)), (b3, .inl (e3, 301, .inl od)), (b4, .inl (e4, 12040, .inl lk)), (b5, .inl (e5, 12040, .inr (.inl nu))), (b6, .inl (e6, 301, .inl rb)), (b7, .inl (e7, 16, .inl rg)), (b8, .inl (e8, 301, .inl td))] H := hP
  have hD : va_D A [(g0, .inr (1, [.int 0, .ref b1, .ref b2, .ref b3, .ref b4, .ref b5, .ref b6, .ref b7, .ref b8, .int ob, .int (co + 1), .int tp])), (b1, .inl (e1, 301, .inl kd)), (b2, .inl (e2, 301, .inl zs)), (b3, .inl (e3, 301, .inl od)), (b4, .inl (e4, 12040, .inl lk)), (b5, .inl (e5, 12040, .inr (.inl nu))), (b6, .inl (e6, 301, .inl rb)), (b7, .inl (e7, 16, .inl rg)), (b8, .inl (e8, 301, .inl td))] := hD
  refine lv_iconst (v := 0) hx hb dX1_collect_15 (by decide) ?_
  refine hw_topi (y := nI 0) (nI_0.symm) ?_
  refine lv_istore_n hx hb dX1_collect_16 rfl hl (by decide) rfl (fun ls hl => ?_)
  have hl : lv_has ls 5 [(1, .int (nI 0)), (0, .ref g0)] := hl
  have loopA : ∀ (n9 : Nat) (k : Nat) (rb : Nat → Int32) (H : Heap) (locs : List Loc) (ls : Array Slot), 301 - k < n9 → (k ≤ 301 ∧ ∀ o, o < k → rb o = 0) → va_P (dC, dI) vwCl [(g0, .inr (1, [.int 0, .ref b1, .ref b2, .ref b3, .ref b4, .ref b5, .ref b6, .ref b7, .ref b8, .int ob, .int (co + 1), .int tp])), (b1, .inl (e1, 301, .inl kd)), (b2, .inl (e2, 301, .inl zs)), (b3, .inl (e3, 301, .inl od)), (b4, .inl (e4, 12040, .inl lk)), (b5, .inl (e5, 12040, .inr (.inl nu))), (b6, .inl (e6, 301, .inl rb)), (b7, .inl (e7, 16, .inl rg)), (b8, .inl (e8, 301, .inl td))] H → va_D A [(g0, .inr (1, [.int 0, .ref b1, .ref b2, .ref b3, .ref b4, .ref b5, .ref b6, .ref b7, .ref b8, .int ob, .int (co + 1), .int tp])), (b1, .inl (e1, 301, .inl kd)), (b2, .inl (e2, 301, .inl zs)), (b3, .inl (e3, 301, .inl od)), (b4, .inl (e4, 12040, .inl lk)), (b5, .inl (e5, 12040, .inr (.inl nu))), (b6, .inl (e6, 301, .inl rb)), (b7, .inl (e7, 16, .inl rg)), (b8, .inl (e8, 301, .inl td))] → va_S A s.heap H locs → lv_has ls 5 [(1, .int (nI k)), (0, .ref g0)] → W p l e (headSpec wsX1_collect ({ frames := 1, cells := 0, slots := 0, locals := 21 })).room s m args below meth c H locs 0 0 Q9 (F0 m 17 ls []) := by
    intro n9
    induction n9 with
    | zero => intro k rb H locs ls hm; exact absurd hm (Nat.not_lt_zero _)
    | succ n9 ihA =>
      intro k rb H locs ls hm hI hP hD hS hl
      refine lv_iload_n hx hb dX1_collect_17 rfl (lv_at hl 0 rfl) ?_
      refine lv_sipush (v := 300) hx hb dX1_collect_18 (by decide) ?_
      refine lv_icmp_gt hx hb dX1_collect_21 (tgt := 37) (by decide) (fun hc => ?_) (fun hc => ?_)
      · have hk : k = 301 := by
          have h1 := (nI_ltI (a := 300) (by decide) (by omega)).mp hc
          omega
        subst hk
        refine lv_aload_n hx hb dX1_collect_37 rfl (lv_at hl 1 rfl) ?_
        refine lv_iconst (v := 0) hx hb dX1_collect_38 (by decide) ?_
        refine hw_topi (y := nI 0) (nI_0.symm) ?_
        refine va_put (D := (dC, dI)) (ci := 1) (v := .int (nI 0)) (ty := .int) (C := RX1) (T := TX1) (N := 12) hx hb hts inX1 tyX1 tyX1_ok nmX1 hown hK hP hD hS 0 rfl rfl 11 (by decide) (hts _ bw_fl_X1_47) (fun _ h9 => h9) rfl (by decide +kernel) rfl rfl (Nat.le_of_ble_eq_true rfl) dX1_collect_39 (fun H locs hP hD hS => ?_)
        have hP : va_P (dC, dI) vwCl [(g0, .inr (1, [.int 0, .ref b1, .ref b2, .ref b3, .ref b4, .ref b5, .ref b6, .ref b7, .ref b8, .int ob, .int (co + 1), .int (nI 0)])), (b1, .inl (e1, 301, .inl kd)), (b2, .inl (e2, 301, .inl zs)), (b3, .inl (e3, 301, .inl od)), (b4, .inl (e4, 12040, .inl lk)), (b5, .inl (e5, 12040, .inr (.inl nu))), (b6, .inl (e6, 301, .inl rb)), (b7, .inl (e7, 16, .inl rg)), (b8, .inl (e8, 301, .inl td))] H := hP
        have hD : va_D A [(g0, .inr (1, [.int 0, .ref b1, .ref b2, .ref b3, .ref b4, .ref b5, .ref b6, .ref b7, .ref b8, .int ob, .int (co + 1), .int (nI 0)])), (b1, .inl (e1, 301, .inl kd)), (b2, .inl (e2, 301, .inl zs)), (b3, .inl (e3, 301, .inl od)), (b4, .inl (e4, 12040, .inl lk)), (b5, .inl (e5, 12040, .inr (.inl nu))), (b6, .inl (e6, 301, .inl rb)), (b7, .inl (e7, 16, .inl rg)), (b8, .inl (e8, 301, .inl td))] := hD
        refine lv_iconst (v := 0) hx hb dX1_collect_42 (by decide) ?_
        refine hw_topi (y := nI 0) (nI_0.symm) ?_
        refine lv_istore_n hx hb dX1_collect_43 rfl hl (by decide) rfl (fun ls hl => ?_)
        have hl : lv_has ls 5 [(1, .int (nI 0)), (0, .ref g0)] := hl
        have loopB : ∀ (n9 : Nat) (k : Nat) (Sx : List Nat) (Tx : List Nat) (rb : Nat → Int32) (td : Nat → Int32) (tp : Int32) (H : Heap) (locs : List Loc) (ls : Array Slot), 16 - k < n9 → (k ≤ 16 ∧ hp_K M Sx Tx rb td tp ∧ hp_Y M Sx Tx 0 0 ∧ hp_Yr M Sx k) → va_P (dC, dI) vwCl [(g0, .inr (1, [.int 0, .ref b1, .ref b2, .ref b3, .ref b4, .ref b5, .ref b6, .ref b7, .ref b8, .int ob, .int (co + 1), .int tp])), (b1, .inl (e1, 301, .inl kd)), (b2, .inl (e2, 301, .inl zs)), (b3, .inl (e3, 301, .inl od)), (b4, .inl (e4, 12040, .inl lk)), (b5, .inl (e5, 12040, .inr (.inl nu))), (b6, .inl (e6, 301, .inl rb)), (b7, .inl (e7, 16, .inl rg)), (b8, .inl (e8, 301, .inl td))] H → va_D A [(g0, .inr (1, [.int 0, .ref b1, .ref b2, .ref b3, .ref b4, .ref b5, .ref b6, .ref b7, .ref b8, .int ob, .int (co + 1), .int tp])), (b1, .inl (e1, 301, .inl kd)), (b2, .inl (e2, 301, .inl zs)), (b3, .inl (e3, 301, .inl od)), (b4, .inl (e4, 12040, .inl lk)), (b5, .inl (e5, 12040, .inr (.inl nu))), (b6, .inl (e6, 301, .inl rb)), (b7, .inl (e7, 16, .inl rg)), (b8, .inl (e8, 301, .inl td))] → va_S A s.heap H locs → lv_has ls 5 [(1, .int (nI k)), (0, .ref g0)] → W p l e (headSpec wsX1_collect ({ frames := 1, cells := 0, slots := 0, locals := 21 })).room s m args below meth c H locs 0 0 Q9 (F0 m 44 ls []) := by
          intro n9
          induction n9 with
          | zero => intro k Sx Tx rb td tp H locs ls hm; exact absurd hm (Nat.not_lt_zero _)
          | succ n9 ihB =>
            intro k Sx Tx rb td tp H locs ls hm hI hP hD hS hl
            refine lv_iload_n hx hb dX1_collect_44 rfl (lv_at hl 0 rfl) ?_
            refine lv_bipush (v := 16) hx hb dX1_collect_45 (by decide) ?_
            refine lv_icmp_ge hx hb dX1_collect_47 (tgt := 66) (by decide) (fun hc => ?_) (fun hc => ?_)
            · have hk : k = 16 := by
                have h1 := (nI_leI (a := 16) (by decide) (by omega)).mp hc
                omega
              subst hk
              have loopC : ∀ (n9 : Nat) (Sx : List Nat) (Tx : List Nat) (px : Nat) (ix : Nat) (rb : Nat → Int32) (td : Nat → Int32) (tp : Int32) (H : Heap) (locs : List Loc) (ls : Array Slot), 2 * (300 - Sx.length) + Tx.length < n9 → (hp_K M Sx Tx rb td tp ∧ hp_Y M Sx Tx px ix ∧ (hp_z M px ≤ ix ∨ hp_k M px ≠ 1 ∨ px ∉ Sx) ∧ hp_Yr M Sx 16) → va_P (dC, dI) vwCl [(g0, .inr (1, [.int 0, .ref b1, .ref b2, .ref b3, .ref b4, .ref b5, .ref b6, .ref b7, .ref b8, .int ob, .int (co + 1), .int tp])), (b1, .inl (e1, 301, .inl kd)), (b2, .inl (e2, 301, .inl zs)), (b3, .inl (e3, 301, .inl od)), (b4, .inl (e4, 12040, .inl lk)), (b5, .inl (e5, 12040, .inr (.inl nu))), (b6, .inl (e6, 301, .inl rb)), (b7, .inl (e7, 16, .inl rg)), (b8, .inl (e8, 301, .inl td))] H → va_D A [(g0, .inr (1, [.int 0, .ref b1, .ref b2, .ref b3, .ref b4, .ref b5, .ref b6, .ref b7, .ref b8, .int ob, .int (co + 1), .int tp])), (b1, .inl (e1, 301, .inl kd)), (b2, .inl (e2, 301, .inl zs)), (b3, .inl (e3, 301, .inl od)), (b4, .inl (e4, 12040, .inl lk)), (b5, .inl (e5, 12040, .inr (.inl nu))), (b6, .inl (e6, 301, .inl rb)), (b7, .inl (e7, 16, .inl rg)), (b8, .inl (e8, 301, .inl td))] → va_S A s.heap H locs → lv_has ls 5 [(0, .ref g0)] → W p l e (headSpec wsX1_collect ({ frames := 1, cells := 0, slots := 0, locals := 21 })).room s m args below meth c H locs 0 0 Q9 (F0 m 66 ls []) := by
                intro n9
                induction n9 with
                | zero => intro Sx Tx px ix rb td tp H locs ls hm; exact absurd hm (Nat.not_lt_zero _)
                | succ n9 ihC =>
                  intro Sx Tx px ix rb td tp H locs ls hm hI hP hD hS hl
                  have hlen := hp_K_len hW hI.1
                  refine lv_aload_n hx hb dX1_collect_66 rfl (lv_at hl 0 rfl) ?_
                  refine va_get (D := (dC, dI)) (ci := 1) (v := .int tp) (C := RX1) (T := TX1) (N := 12) hx hb hts inX1 hown hK hP 0 rfl rfl 11 (by decide) (hts _ bw_fl_X1_47) (fun _ h9 => h9) rfl dX1_collect_67 ?_
                  refine lv_if_le hx hb dX1_collect_70 (tgt := 139) (by decide) (fun hc => ?_) (fun hc => ?_)
                  · have hT : Tx = [] := List.length_eq_zero_iff.mp (by rw [hI.1.1] at hc; have h1 := (nI_leI (b := 0) (by omega) (by decide)).mp hc; omega)
                    subst hT
                    have hend := hp_Y_end hI.2.1 hI.2.2.1 hI.2.2.2
                    obtain ⟨Se, hSe⟩ : ∃ z, z = Sx := ⟨_, rfl⟩
                    rw [← hSe] at hend
                    have hKe := hI.1
                    rw [← hSe] at hKe
                    refine lv_iconst (v := 0) hx hb dX1_collect_139 (by decide) ?_
                    refine hw_topi (y := nI (([] : List Nat).filter (hp_b M)).length) (nI_0.symm) ?_
                    refine lv_istore_n hx hb dX1_collect_140 rfl hl (by decide) rfl (fun ls hl => ?_)
                    have hl : lv_has ls 5 [(1, .int (nI (([] : List Nat).filter (hp_b M)).length)), (0, .ref g0)] := hl
                    refine lv_iconst (v := 0) hx hb dX1_collect_141 (by decide) ?_
                    refine hw_topi (y := nI (([] : List Nat).length - (([] : List Nat).filter (hp_b M)).length)) (nI_0.symm) ?_
                    refine lv_istore_n hx hb dX1_collect_142 rfl hl (by decide) rfl (fun ls hl => ?_)
                    have hl : lv_has ls 5 [(2, .int (nI (([] : List Nat).length - (([] : List Nat).filter (hp_b M)).length))), (1, .int (nI (([] : List Nat).filter (hp_b M)).length)), (0, .ref g0)] := hl
                    refine lv_iconst (v := 0) hx hb dX1_collect_143 (by decide) ?_
                    refine hw_topi (y := nI ([] : List Nat).length) (nI_0.symm) ?_
                    refine lv_istore_n hx hb dX1_collect_144 rfl hl (by decide) rfl (fun ls hl => ?_)
                    have hl : lv_has ls 5 [(3, .int (nI ([] : List Nat).length)), (2, .int (nI (([] : List Nat).length - (([] : List Nat).filter (hp_b M)).length))), (1, .int (nI (([] : List Nat).filter (hp_b M)).length)), (0, .ref g0)] := hl
                    have loopE : ∀ (n9 : Nat) (pre : List Nat) (suf : List Nat) (kd : Nat → Int32) (od : Nat → Int32) (lk : Nat → Int32) (H : Heap) (locs : List Loc) (ls : Array Slot), suf.length < n9 → (hp_L M = pre ++ suf ∧ hp_G M pre suf kd od lk) → va_P (dC, dI) vwCl [(g0, .inr (1, [.int 0, .ref b1, .ref b2, .ref b3, .ref b4, .ref b5, .ref b6, .ref b7, .ref b8, .int ob, .int (co + 1), .int tp])), (b1, .inl (e1, 301, .inl kd)), (b2, .inl (e2, 301, .inl zs)), (b3, .inl (e3, 301, .inl od)), (b4, .inl (e4, 12040, .inl lk)), (b5, .inl (e5, 12040, .inr (.inl nu))), (b6, .inl (e6, 301, .inl rb)), (b7, .inl (e7, 16, .inl rg)), (b8, .inl (e8, 301, .inl td))] H → va_D A [(g0, .inr (1, [.int 0, .ref b1, .ref b2, .ref b3, .ref b4, .ref b5, .ref b6, .ref b7, .ref b8, .int ob, .int (co + 1), .int tp])), (b1, .inl (e1, 301, .inl kd)), (b2, .inl (e2, 301, .inl zs)), (b3, .inl (e3, 301, .inl od)), (b4, .inl (e4, 12040, .inl lk)), (b5, .inl (e5, 12040, .inr (.inl nu))), (b6, .inl (e6, 301, .inl rb)), (b7, .inl (e7, 16, .inl rg)), (b8, .inl (e8, 301, .inl td))] → va_S A s.heap H locs → lv_has ls 5 [(3, .int (nI pre.length)), (2, .int (nI (pre.length - (pre.filter (hp_b M)).length))), (1, .int (nI (pre.filter (hp_b M)).length)), (0, .ref g0)] → W p l e (headSpec wsX1_collect ({ frames := 1, cells := 0, slots := 0, locals := 21 })).room s m args below meth c H locs 0 0 Q9 (F0 m 145 ls []) := by
                      intro n9
                      induction n9 with
                      | zero => intro pre suf kd od lk H locs ls hm; exact absurd hm (Nat.not_lt_zero _)
                      | succ n9 ihE =>
                        intro pre suf kd od lk H locs ls hm hI hP hD hS hl
                        refine lv_iload_n hx hb dX1_collect_145 rfl (lv_at hl 0 rfl) ?_
                        refine lv_aload_n hx hb dX1_collect_146 rfl (lv_at hl 3 rfl) ?_
                        refine va_get (D := (dC, dI)) (ci := 1) (v := .int ob) (C := RX1) (T := TX1) (N := 12) hx hb hts inX1 hown hK hP 0 rfl rfl 9 (by decide) (hts _ bw_fl_X1_40) (fun _ h9 => h9) rfl dX1_collect_147 ?_
                        refine lv_icmp_ge hx hb dX1_collect_150 (tgt := 242) (by decide) (fun hc => ?_) (fun hc => ?_)
                        · have hlen := congrArg List.length hI.1
                          rw [List.length_append] at hlen
                          have hL3 := hp_L_len hW
                          rw [hQ.1] at hc
                          have hs : suf = [] := List.length_eq_zero_iff.mp (by have h1 := (nI_leI (by omega) (by omega)).mp hc; omega)
                          subst hs
                          have hpre : hp_L M = pre := by rw [hI.1, List.append_nil]
                          refine lv_aload_n hx hb dX1_collect_242 rfl (lv_at hl 3 rfl) ?_
                          refine lv_iload_n hx hb dX1_collect_243 rfl (lv_at hl 2 rfl) ?_
                          refine va_put (D := (dC, dI)) (ci := 1) (v := .int (nI (pre.filter (hp_b M)).length)) (ty := .int) (C := RX1) (T := TX1) (N := 12) hx hb hts inX1 tyX1 tyX1_ok nmX1 hown hK hP hD hS 0 rfl rfl 9 (by decide) (hts _ bw_fl_X1_40) (fun _ h9 => h9) rfl (by decide +kernel) rfl rfl (Nat.le_of_ble_eq_true rfl) dX1_collect_244 (fun H locs hP hD hS => ?_)
                          have hP : va_P (dC, dI) vwCl [(g0, .inr (1, [.int 0, .ref b1, .ref b2, .ref b3, .ref b4, .ref b5, .ref b6, .ref b7, .ref b8, .int (nI (pre.filter (hp_b M)).length), .int (co + 1), .int tp])), (b1, .inl (e1, 301, .inl kd)), (b2, .inl (e2, 301, .inl zs)), (b3, .inl (e3, 301, .inl od)), (b4, .inl (e4, 12040, .inl lk)), (b5, .inl (e5, 12040, .inr (.inl nu))), (b6, .inl (e6, 301, .inl rb)), (b7, .inl (e7, 16, .inl rg)), (b8, .inl (e8, 301, .inl td))] H := hP
                          have hD : va_D A [(g0, .inr (1, [.int 0, .ref b1, .ref b2, .ref b3, .ref b4, .ref b5, .ref b6, .ref b7, .ref b8, .int (nI (pre.filter (hp_b M)).length), .int (co + 1), .int tp])), (b1, .inl (e1, 301, .inl kd)), (b2, .inl (e2, 301, .inl zs)), (b3, .inl (e3, 301, .inl od)), (b4, .inl (e4, 12040, .inl lk)), (b5, .inl (e5, 12040, .inr (.inl nu))), (b6, .inl (e6, 301, .inl rb)), (b7, .inl (e7, 16, .inl rg)), (b8, .inl (e8, 301, .inl td))] := hD
                          refine lv_iload_n hx hb dX1_collect_247 rfl (lv_at hl 1 rfl) ?_
                          subst hQ9
                          exact W.iret (v := nI (pre.length - (pre.filter (hp_b M)).length)) hx hb hr (fun t ht hWm => ⟨⟨nI (pre.length - (pre.filter (hp_b M)).length), (0, kd, od, lk, rb, td, (nI (pre.filter (hp_b M)).length), (co + 1), tp), rfl, ⟨by rw [← hpre]; rfl, by have h9 := hI.2; rw [← hpre] at h9 ⊢; exact hp_Q_col hW hQ h9, rfl⟩, by rw [ht]; exact hP, va_K.moved hWm.alike hK, hD⟩, hS.F ht⟩) hS.2.2 dX1_collect_248
                        · have hlen := congrArg List.length hI.1
                          rw [List.length_append] at hlen
                          have hL3 := hp_L_len hW
                          rw [hQ.1] at hc
                          have hs : 0 < suf.length := Nat.pos_of_ne_zero (fun h9 => hc ((nI_leI (by omega) (by omega)).mpr (by omega)))
                          obtain ⟨o, suf2, rfl⟩ : ∃ o suf2, suf = o :: suf2 := by
                            cases suf with
                            | nil => exact absurd hs (Nat.lt_irrefl _)
                            | cons o suf2 => exact ⟨o, suf2, rfl⟩
                          have ho : o ∈ hp_L M := by rw [hI.1]; simp
                          obtain ⟨hod, hkd, hlk⟩ := hp_G_k hW hI.1 hI.2
                          have hw9 := hW.2.1 o ho
                          have hfl := hp_filter_len (hp_b M) pre
                          have hrbo : ∀ x, x ≤ 300 → (rb x = 0 ↔ ¬ hp_b M x = true) := fun x hx => by
                            rw [hKe.2.2.2.2.2.2 x hx]
                            by_cases h9 : x ∈ Se
                            · rw [if_pos h9]; exact ⟨fun h8 => absurd h8 hp_10, fun h8 => absurd ((hend x).mp h9) h8⟩
                            · rw [if_neg h9]; exact ⟨fun _ h8 => h9 ((hend x).mpr h8), fun _ => rfl⟩
                          simp only [List.length_cons] at hlen hm
                          refine lv_aload_n hx hb dX1_collect_153 rfl (lv_at hl 3 rfl) ?_
                          refine va_get (D := (dC, dI)) (ci := 1) (v := .ref b3) (C := RX1) (T := TX1) (N := 12) hx hb hts inX1 hown hK hP 0 rfl rfl 3 (by decide) (hts _ bw_fl_X1_16) (fun _ h9 => h9) rfl dX1_collect_154 ?_
                          refine lv_iload_n hx hb dX1_collect_157 rfl (lv_at hl 0 rfl) ?_
                          refine hw_iald (j := pre.length) hx hb hK hP 3 2 rfl rfl (rfl) (by omega) (by decide) dX1_collect_158 ?_
                          refine hw_topi (y := nI o) (hod) ?_
                          refine lv_istore hx hb dX1_collect_159 hl (by decide) rfl (fun ls hl => ?_)
                          have hl : lv_has ls 5 [(4, .int (nI o)), (3, .int (nI pre.length)), (2, .int (nI (pre.length - (pre.filter (hp_b M)).length))), (1, .int (nI (pre.filter (hp_b M)).length)), (0, .ref g0)] := hl
                          refine lv_aload_n hx hb dX1_collect_161 rfl (lv_at hl 4 rfl) ?_
                          refine va_get (D := (dC, dI)) (ci := 1) (v := .ref b6) (C := RX1) (T := TX1) (N := 12) hx hb hts inX1 hown hK hP 0 rfl rfl 6 (by decide) (hts _ bw_fl_X1_26) (fun _ h9 => h9) rfl dX1_collect_162 ?_
                          refine lv_iload hx hb dX1_collect_165 (lv_at hl 0 rfl) ?_
                          refine hw_zald (j := o) hx hb hK hP 6 5 rfl rfl (rfl) (by omega) (by decide) dX1_collect_167 ?_
                          refine lv_if_ne hx hb dX1_collect_168 (tgt := 185) (by decide) (fun hc => ?_) (fun hc => ?_)
                          · have hbo : hp_b M o = true := Classical.byContradiction fun h9 => hc ((hrbo o (by omega)).mpr h9)
                            have hIE := hI
                            have join225 : ∀ (lk1 : Nat → Int32) (H : Heap) (locs : List Loc) (ls : Array Slot), (hp_lw M o lk lk1) → va_P (dC, dI) vwCl [(g0, .inr (1, [.int 0, .ref b1, .ref b2, .ref b3, .ref b4, .ref b5, .ref b6, .ref b7, .ref b8, .int ob, .int (co + 1), .int tp])), (b1, .inl (e1, 301, .inl kd)), (b2, .inl (e2, 301, .inl zs)), (b3, .inl (e3, 301, .inl od)), (b4, .inl (e4, 12040, .inl lk1)), (b5, .inl (e5, 12040, .inr (.inl nu))), (b6, .inl (e6, 301, .inl rb)), (b7, .inl (e7, 16, .inl rg)), (b8, .inl (e8, 301, .inl td))] H → va_D A [(g0, .inr (1, [.int 0, .ref b1, .ref b2, .ref b3, .ref b4, .ref b5, .ref b6, .ref b7, .ref b8, .int ob, .int (co + 1), .int tp])), (b1, .inl (e1, 301, .inl kd)), (b2, .inl (e2, 301, .inl zs)), (b3, .inl (e3, 301, .inl od)), (b4, .inl (e4, 12040, .inl lk1)), (b5, .inl (e5, 12040, .inr (.inl nu))), (b6, .inl (e6, 301, .inl rb)), (b7, .inl (e7, 16, .inl rg)), (b8, .inl (e8, 301, .inl td))] → va_S A s.heap H locs → lv_has ls 5 [(4, .int (nI o)), (3, .int (nI pre.length)), (2, .int (nI (pre.length - (pre.filter (hp_b M)).length))), (1, .int (nI (pre.filter (hp_b M)).length)), (0, .ref g0)] → W p l e (headSpec wsX1_collect ({ frames := 1, cells := 0, slots := 0, locals := 21 })).room s m args below meth c H locs 0 0 Q9 (F0 m 225 ls []) := by
                              intro lk1 H locs ls hI hP hD hS hl
                              have hJ := hI
                              refine lv_aload_n hx hb dX1_collect_225 rfl (lv_at hl 4 rfl) ?_
                              refine va_get (D := (dC, dI)) (ci := 1) (v := .ref b3) (C := RX1) (T := TX1) (N := 12) hx hb hts inX1 hown hK hP 0 rfl rfl 3 (by decide) (hts _ bw_fl_X1_16) (fun _ h9 => h9) rfl dX1_collect_226 ?_
                              refine lv_iload_n hx hb dX1_collect_229 rfl (lv_at hl 3 rfl) ?_
                              refine lv_iload hx hb dX1_collect_230 (lv_at hl 0 rfl) ?_
                              refine hw_iast (j := (pre.filter (hp_b M)).length) hx hb hK hP hD hS 3 2 rfl rfl (rfl) (by omega) (by decide) dX1_collect_232 (fun H locs hP hD hS => ?_)
                              have hP : va_P (dC, dI) vwCl [(g0, .inr (1, [.int 0, .ref b1, .ref b2, .ref b3, .ref b4, .ref b5, .ref b6, .ref b7, .ref b8, .int ob, .int (co + 1), .int tp])), (b1, .inl (e1, 301, .inl kd)), (b2, .inl (e2, 301, .inl zs)), (b3, .inl (e3, 301, .inl (upd od ((pre.filter (hp_b M)).length) (nI o)))), (b4, .inl (e4, 12040, .inl lk1)), (b5, .inl (e5, 12040, .inr (.inl nu))), (b6, .inl (e6, 301, .inl rb)), (b7, .inl (e7, 16, .inl rg)), (b8, .inl (e8, 301, .inl td))] H := hP
                              have hD : va_D A [(g0, .inr (1, [.int 0, .ref b1, .ref b2, .ref b3, .ref b4, .ref b5, .ref b6, .ref b7, .ref b8, .int ob, .int (co + 1), .int tp])), (b1, .inl (e1, 301, .inl kd)), (b2, .inl (e2, 301, .inl zs)), (b3, .inl (e3, 301, .inl (upd od ((pre.filter (hp_b M)).length) (nI o)))), (b4, .inl (e4, 12040, .inl lk1)), (b5, .inl (e5, 12040, .inr (.inl nu))), (b6, .inl (e6, 301, .inl rb)), (b7, .inl (e7, 16, .inl rg)), (b8, .inl (e8, 301, .inl td))] := hD
                              refine lv_iinc (k := 3) (v := nI ((pre ++ [o]).filter (hp_b M)).length) hx hb dX1_collect_233 hl rfl (by rw [hp_filter_t M pre hbo, List.length_append]; exact nI_1 _) (by decide) rfl (fun ls hl => ?_)
                              have hl : lv_has ls 5 [(1, .int (nI ((pre ++ [o]).filter (hp_b M)).length)), (4, .int (nI o)), (3, .int (nI pre.length)), (2, .int (nI (pre.length - (pre.filter (hp_b M)).length))), (0, .ref g0)] := hl
                              refine lv_iinc (k := 2) (v := nI (pre ++ [o]).length) hx hb dX1_collect_236 hl rfl (by rw [List.length_append]; exact nI_1 _) (by decide) rfl (fun ls hl => ?_)
                              have hl : lv_has ls 5 [(3, .int (nI (pre ++ [o]).length)), (1, .int (nI ((pre ++ [o]).filter (hp_b M)).length)), (4, .int (nI o)), (2, .int (nI (pre.length - (pre.filter (hp_b M)).length))), (0, .ref g0)] := hl
                              refine lv_goto hx hb dX1_collect_239 (tgt := 145) (by decide) ?_
                              rw [show nI (pre.length - (pre.filter (hp_b M)).length) = nI ((pre ++ [o]).length - ((pre ++ [o]).filter (hp_b M)).length) from by rw [hp_gone_t M pre hbo]] at hl
                              exact ihE (pre ++ [o]) suf2 kd (upd od ((pre.filter (hp_b M)).length) (nI o)) lk1 H locs ls (by omega) (⟨by rw [hIE.1, List.append_assoc]; rfl, hp_G_t hW hIE.1 hIE.2 hbo hJ.1 hJ.2⟩) hP hD hS (lv_sub hl [0, 3, 1, 4] rfl)
                            refine lv_aload_n hx hb dX1_collect_185 rfl (lv_at hl 4 rfl) ?_
                            refine va_get (D := (dC, dI)) (ci := 1) (v := .ref b1) (C := RX1) (T := TX1) (N := 12) hx hb hts inX1 hown hK hP 0 rfl rfl 1 (by decide) (hts _ bw_fl_X1_7) (fun _ h9 => h9) rfl dX1_collect_186 ?_
                            refine lv_iload hx hb dX1_collect_189 (lv_at hl 0 rfl) ?_
                            refine hw_iald (j := o) hx hb hK hP 1 0 rfl rfl (rfl) (by omega) (by decide) dX1_collect_191 ?_
                            refine hw_topi (y := nI (hp_k M o)) (hkd) ?_
                            refine lv_iconst (v := 3) hx hb dX1_collect_192 (by decide) ?_
                            refine lv_icmp_ne hx hb dX1_collect_193 (tgt := 225) (by decide) (fun hc => ?_) (fun hc => ?_)
                            · have hk3 : hp_k M o ≠ 3 := fun h9 => hc (by rw [h9]; decide)
                              exact join225 lk H locs ls (hp_lw_k hk3 hlk) hP hD hS (lv_sub hl [0, 1, 2, 3, 4] rfl)
                            · have hk3 : hp_k M o = 3 := (hp_k1 hW ho (n := 3) (by decide)).mp hc
                              have hz1 := hw9.2.2.2.2.2 hk3
                              have hl0 : lk (40 * o) = nI (hp_l M o 0) := hlk (by omega) 0 (by omega)
                              have hl3 : hp_l M o 0 ≤ 300 := (hW.2.2.2.2.1 o ho (by omega) 0 (by omega)).elim (fun h9 => by omega) (fun h9 => (hW.2.1 _ h9).2.1)
                              refine lv_aload_n hx hb dX1_collect_196 rfl (lv_at hl 4 rfl) ?_
                              refine va_get (D := (dC, dI)) (ci := 1) (v := .ref b6) (C := RX1) (T := TX1) (N := 12) hx hb hts inX1 hown hK hP 0 rfl rfl 6 (by decide) (hts _ bw_fl_X1_26) (fun _ h9 => h9) rfl dX1_collect_197 ?_
                              refine lv_aload_n hx hb dX1_collect_200 rfl (lv_at hl 4 rfl) ?_
                              refine va_get (D := (dC, dI)) (ci := 1) (v := .ref b4) (C := RX1) (T := TX1) (N := 12) hx hb hts inX1 hown hK hP 0 rfl rfl 4 (by decide) (hts _ bw_fl_X1_19) (fun _ h9 => h9) rfl dX1_collect_201 ?_
                              refine lv_bipush (v := 40) hx hb dX1_collect_204 (by decide) ?_
                              refine lv_iload hx hb dX1_collect_206 (lv_at hl 0 rfl) ?_
                              refine lv_imul hx hb dX1_collect_208 ?_
                              refine hw_iald (j := 40 * o) hx hb hK hP 4 3 rfl rfl (hp_40o o) (by omega) (by decide) dX1_collect_209 ?_
                              refine hw_topi (y := nI (hp_l M o 0)) (hl0) ?_
                              refine hw_zald (j := hp_l M o 0) hx hb hK hP 6 5 rfl rfl (rfl) (by omega) (by decide) dX1_collect_210 ?_
                              refine lv_if_ne hx hb dX1_collect_211 (tgt := 225) (by decide) (fun hc => ?_) (fun hc => ?_)
                              · have hbl : hp_b M (hp_l M o 0) = true := Classical.byContradiction fun h9 => hc ((hrbo _ hl3).mpr h9)
                                exact join225 lk H locs ls (hp_lw_t hW ho hk3 hlk hbl) hP hD hS (lv_sub hl [0, 1, 2, 3, 4] rfl)
                              · have hbl : ¬ hp_b M (hp_l M o 0) = true := (hrbo _ hl3).mp hc
                                refine lv_aload_n hx hb dX1_collect_214 rfl (lv_at hl 4 rfl) ?_
                                refine va_get (D := (dC, dI)) (ci := 1) (v := .ref b4) (C := RX1) (T := TX1) (N := 12) hx hb hts inX1 hown hK hP 0 rfl rfl 4 (by decide) (hts _ bw_fl_X1_19) (fun _ h9 => h9) rfl dX1_collect_215 ?_
                                refine lv_bipush (v := 40) hx hb dX1_collect_218 (by decide) ?_
                                refine lv_iload hx hb dX1_collect_220 (lv_at hl 0 rfl) ?_
                                refine lv_imul hx hb dX1_collect_222 ?_
                                refine lv_iconst (v := 0) hx hb dX1_collect_223 (by decide) ?_
                                refine hw_iast (j := 40 * o) hx hb hK hP hD hS 4 3 rfl rfl (hp_40o o) (by omega) (by decide) dX1_collect_224 (fun H locs hP hD hS => ?_)
                                have hP : va_P (dC, dI) vwCl [(g0, .inr (1, [.int 0, .ref b1, .ref b2, .ref b3, .ref b4, .ref b5, .ref b6, .ref b7, .ref b8, .int ob, .int (co + 1), .int tp])), (b1, .inl (e1, 301, .inl kd)), (b2, .inl (e2, 301, .inl zs)), (b3, .inl (e3, 301, .inl od)), (b4, .inl (e4, 12040, .inl (upd lk (40 * o) 0))), (b5, .inl (e5, 12040, .inr (.inl nu))), (b6, .inl (e6, 301, .inl rb)), (b7, .inl (e7, 16, .inl rg)), (b8, .inl (e8, 301, .inl td))] H := hP
                                have hD : va_D A [(g0, .inr (1, [.int 0, .ref b1, .ref b2, .ref b3, .ref b4, .ref b5, .ref b6, .ref b7, .ref b8, .int ob, .int (co + 1), .int tp])), (b1, .inl (e1, 301, .inl kd)), (b2, .inl (e2, 301, .inl zs)), (b3, .inl (e3, 301, .inl od)), (b4, .inl (e4, 12040, .inl (upd lk (40 * o) 0))), (b5, .inl (e5, 12040, .inr (.inl nu))), (b6, .inl (e6, 301, .inl rb)), (b7, .inl (e7, 16, .inl rg)), (b8, .inl (e8, 301, .inl td))] := hD
                                exact join225 (upd lk (40 * o) 0) H locs ls (hp_lw_f hW ho hk3 hbl) hP hD hS (lv_sub hl [0, 1, 2, 3, 4] rfl)
                          · have hbo : ¬ hp_b M o = true := (hrbo o (by omega)).mp hc
                            have hbf : hp_b M o = false := by cases e9 : hp_b M o
                                                              · rfl
                                                              · exact absurd e9 hbo
                            refine lv_aload_n hx hb dX1_collect_171 rfl (lv_at hl 4 rfl) ?_
                            refine va_get (D := (dC, dI)) (ci := 1) (v := .ref b1) (C := RX1) (T := TX1) (N := 12) hx hb hts inX1 hown hK hP 0 rfl rfl 1 (by decide) (hts _ bw_fl_X1_7) (fun _ h9 => h9) rfl dX1_collect_172 ?_
                            refine lv_iload hx hb dX1_collect_175 (lv_at hl 0 rfl) ?_
                            refine lv_iconst (v := 0) hx hb dX1_collect_177 (by decide) ?_
                            refine hw_iast (j := o) hx hb hK hP hD hS 1 0 rfl rfl (rfl) (by omega) (by decide) dX1_collect_178 (fun H locs hP hD hS => ?_)
                            have hP : va_P (dC, dI) vwCl [(g0, .inr (1, [.int 0, .ref b1, .ref b2, .ref b3, .ref b4, .ref b5, .ref b6, .ref b7, .ref b8, .int ob, .int (co + 1), .int tp])), (b1, .inl (e1, 301, .inl (upd kd o 0))), (b2, .inl (e2, 301, .inl zs)), (b3, .inl (e3, 301, .inl od)), (b4, .inl (e4, 12040, .inl lk)), (b5, .inl (e5, 12040, .inr (.inl nu))), (b6, .inl (e6, 301, .inl rb)), (b7, .inl (e7, 16, .inl rg)), (b8, .inl (e8, 301, .inl td))] H := hP
                            have hD : va_D A [(g0, .inr (1, [.int 0, .ref b1, .ref b2, .ref b3, .ref b4, .ref b5, .ref b6, .ref b7, .ref b8, .int ob, .int (co + 1), .int tp])), (b1, .inl (e1, 301, .inl (upd kd o 0))), (b2, .inl (e2, 301, .inl zs)), (b3, .inl (e3, 301, .inl od)), (b4, .inl (e4, 12040, .inl lk)), (b5, .inl (e5, 12040, .inr (.inl nu))), (b6, .inl (e6, 301, .inl rb)), (b7, .inl (e7, 16, .inl rg)), (b8, .inl (e8, 301, .inl td))] := hD
                            refine lv_iinc (k := 2) (v := nI ((pre ++ [o]).length - ((pre ++ [o]).filter (hp_b M)).length)) hx hb dX1_collect_179 hl rfl (by rw [hp_gone_f M pre hbo]; exact nI_1 _) (by decide) rfl (fun ls hl => ?_)
                            have hl : lv_has ls 5 [(2, .int (nI ((pre ++ [o]).length - ((pre ++ [o]).filter (hp_b M)).length))), (4, .int (nI o)), (3, .int (nI pre.length)), (1, .int (nI (pre.filter (hp_b M)).length)), (0, .ref g0)] := hl
                            refine lv_goto hx hb dX1_collect_182 (tgt := 236) (by decide) ?_
                            refine lv_iinc (k := 2) (v := nI (pre ++ [o]).length) hx hb dX1_collect_236 hl rfl (by rw [List.length_append]; exact nI_1 _) (by decide) rfl (fun ls hl => ?_)
                            have hl : lv_has ls 5 [(3, .int (nI (pre ++ [o]).length)), (2, .int (nI ((pre ++ [o]).length - ((pre ++ [o]).filter (hp_b M)).length))), (4, .int (nI o)), (1, .int (nI (pre.filter (hp_b M)).length)), (0, .ref g0)] := hl
                            refine lv_goto hx hb dX1_collect_239 (tgt := 145) (by decide) ?_
                            rw [← hp_filter_f M pre hbo] at hl
                            exact ihE (pre ++ [o]) suf2 (upd kd o 0) od lk H locs ls (by omega) (⟨by rw [hI.1, List.append_assoc]; rfl, hp_G_f hW hI.1 hI.2 hbf⟩) hP hD hS (lv_sub hl [0, 1, 3, 4] rfl)
                    exact loopE _ ([]) (hp_L M) kd od lk H locs ls (Nat.lt_succ_self _) (⟨rfl, hp_G_0 hQ⟩) hP hD hS (lv_sub hl [0, 1, 2, 3] rfl)
                  · have hT0 : 0 < Tx.length := Nat.pos_of_ne_zero (fun h9 => hc (by rw [hI.1.1, h9]; decide))
                    obtain ⟨T2, o, hT2⟩ := hp_last hT0
                    subst hT2
                    have hpop := hp_K_pop hI.1
                    have hoL := hI.1.2.2.2.1 o hpop.2.2.1
                    have hw9 := hW.2.1 o hoL
                    have hq9 := hQ.2.2.2.2.2 o hoL
                    have hl9 : T2.length < 301 := by simp only [List.length_append, List.length_cons, List.length_nil] at hlen; omega
                    refine lv_aload_n hx hb dX1_collect_73 rfl (lv_at hl 0 rfl) ?_
                    refine lv_dup hx hb dX1_collect_74 rfl ?_
                    refine va_get (D := (dC, dI)) (ci := 1) (v := .int tp) (C := RX1) (T := TX1) (N := 12) hx hb hts inX1 hown hK hP 0 rfl rfl 11 (by decide) (hts _ bw_fl_X1_47) (fun _ h9 => h9) rfl dX1_collect_75 ?_
                    refine lv_iconst (v := 1) hx hb dX1_collect_78 (by decide) ?_
                    refine lv_isub hx hb dX1_collect_79 ?_
                    refine hw_topi (y := nI T2.length) (by rw [hI.1.1, List.length_append]; exact nI_pred _) ?_
                    refine va_put (D := (dC, dI)) (ci := 1) (v := .int (nI T2.length)) (ty := .int) (C := RX1) (T := TX1) (N := 12) hx hb hts inX1 tyX1 tyX1_ok nmX1 hown hK hP hD hS 0 rfl rfl 11 (by decide) (hts _ bw_fl_X1_47) (fun _ h9 => h9) rfl (by decide +kernel) rfl rfl (Nat.le_of_ble_eq_true rfl) dX1_collect_80 (fun H locs hP hD hS => ?_)
                    have hP : va_P (dC, dI) vwCl [(g0, .inr (1, [.int 0, .ref b1, .ref b2, .ref b3, .ref b4, .ref b5, .ref b6, .ref b7, .ref b8, .int ob, .int (co + 1), .int (nI T2.length)])), (b1, .inl (e1, 301, .inl kd)), (b2, .inl (e2, 301, .inl zs)), (b3, .inl (e3, 301, .inl od)), (b4, .inl (e4, 12040, .inl lk)), (b5, .inl (e5, 12040, .inr (.inl nu))), (b6, .inl (e6, 301, .inl rb)), (b7, .inl (e7, 16, .inl rg)), (b8, .inl (e8, 301, .inl td))] H := hP
                    have hD : va_D A [(g0, .inr (1, [.int 0, .ref b1, .ref b2, .ref b3, .ref b4, .ref b5, .ref b6, .ref b7, .ref b8, .int ob, .int (co + 1), .int (nI T2.length)])), (b1, .inl (e1, 301, .inl kd)), (b2, .inl (e2, 301, .inl zs)), (b3, .inl (e3, 301, .inl od)), (b4, .inl (e4, 12040, .inl lk)), (b5, .inl (e5, 12040, .inr (.inl nu))), (b6, .inl (e6, 301, .inl rb)), (b7, .inl (e7, 16, .inl rg)), (b8, .inl (e8, 301, .inl td))] := hD
                    refine lv_aload_n hx hb dX1_collect_83 rfl (lv_at hl 0 rfl) ?_
                    refine va_get (D := (dC, dI)) (ci := 1) (v := .ref b8) (C := RX1) (T := TX1) (N := 12) hx hb hts inX1 hown hK hP 0 rfl rfl 8 (by decide) (hts _ bw_fl_X1_33) (fun _ h9 => h9) rfl dX1_collect_84 ?_
                    refine lv_aload_n hx hb dX1_collect_87 rfl (lv_at hl 0 rfl) ?_
                    refine va_get (D := (dC, dI)) (ci := 1) (v := .int (nI T2.length)) (C := RX1) (T := TX1) (N := 12) hx hb hts inX1 hown hK hP 0 rfl rfl 11 (by decide) (hts _ bw_fl_X1_47) (fun _ h9 => h9) rfl dX1_collect_88 ?_
                    refine hw_iald (j := T2.length) hx hb hK hP 8 7 rfl rfl (rfl) (hl9) (by decide) dX1_collect_91 ?_
                    refine hw_topi (y := nI o) (hpop.2.1) ?_
                    refine lv_istore_n hx hb dX1_collect_92 rfl hl (by decide) rfl (fun ls hl => ?_)
                    have hl : lv_has ls 5 [(1, .int (nI o)), (0, .ref g0)] := hl
                    refine lv_iconst (v := 0) hx hb dX1_collect_93 (by decide) ?_
                    refine hw_topi (y := nI 0) (nI_0.symm) ?_
                    refine lv_istore_n hx hb dX1_collect_94 rfl hl (by decide) rfl (fun ls hl => ?_)
                    have hl : lv_has ls 5 [(2, .int (nI 0)), (1, .int (nI o)), (0, .ref g0)] := hl
                    have loopD : ∀ (n8 : Nat) (i : Nat) (Sy : List Nat) (Ty : List Nat) (rb : Nat → Int32) (td : Nat → Int32) (tp : Int32) (H : Heap) (locs : List Loc) (ls : Array Slot), hp_z M o - i < n8 → (i ≤ hp_z M o ∧ hp_K M Sy Ty rb td tp ∧ hp_Y M Sy Ty o i ∧ hp_Yr M Sy 16 ∧ o ∈ Sy ∧ 2 * (300 - Sy.length) + Ty.length < n9) → va_P (dC, dI) vwCl [(g0, .inr (1, [.int 0, .ref b1, .ref b2, .ref b3, .ref b4, .ref b5, .ref b6, .ref b7, .ref b8, .int ob, .int (co + 1), .int tp])), (b1, .inl (e1, 301, .inl kd)), (b2, .inl (e2, 301, .inl zs)), (b3, .inl (e3, 301, .inl od)), (b4, .inl (e4, 12040, .inl lk)), (b5, .inl (e5, 12040, .inr (.inl nu))), (b6, .inl (e6, 301, .inl rb)), (b7, .inl (e7, 16, .inl rg)), (b8, .inl (e8, 301, .inl td))] H → va_D A [(g0, .inr (1, [.int 0, .ref b1, .ref b2, .ref b3, .ref b4, .ref b5, .ref b6, .ref b7, .ref b8, .int ob, .int (co + 1), .int tp])), (b1, .inl (e1, 301, .inl kd)), (b2, .inl (e2, 301, .inl zs)), (b3, .inl (e3, 301, .inl od)), (b4, .inl (e4, 12040, .inl lk)), (b5, .inl (e5, 12040, .inr (.inl nu))), (b6, .inl (e6, 301, .inl rb)), (b7, .inl (e7, 16, .inl rg)), (b8, .inl (e8, 301, .inl td))] → va_S A s.heap H locs → lv_has ls 5 [(2, .int (nI i)), (1, .int (nI o)), (0, .ref g0)] → W p l e (headSpec wsX1_collect ({ frames := 1, cells := 0, slots := 0, locals := 21 })).room s m args below meth c H locs 0 0 Q9 (F0 m 95 ls []) := by
                      intro n8
                      induction n8 with
                      | zero => intro i Sy Ty rb td tp H locs ls hm; exact absurd hm (Nat.not_lt_zero _)
                      | succ n8 ihD =>
                        intro i Sy Ty rb td tp H locs ls hm hI hP hD hS hl
                        have hlen2 := hp_K_len hW hI.2.1
                        refine lv_aload_n hx hb dX1_collect_95 rfl (lv_at hl 2 rfl) ?_
                        refine va_get (D := (dC, dI)) (ci := 1) (v := .ref b1) (C := RX1) (T := TX1) (N := 12) hx hb hts inX1 hown hK hP 0 rfl rfl 1 (by decide) (hts _ bw_fl_X1_7) (fun _ h9 => h9) rfl dX1_collect_96 ?_
                        refine lv_iload_n hx hb dX1_collect_99 rfl (lv_at hl 1 rfl) ?_
                        refine hw_iald (j := o) hx hb hK hP 1 0 rfl rfl (rfl) (by omega) (by decide) dX1_collect_100 ?_
                        refine hw_topi (y := nI (hp_k M o)) (hQ.2.2.2.1 o (by omega)) ?_
                        refine lv_iconst (v := 1) hx hb dX1_collect_101 (by decide) ?_
                        refine lv_icmp_ne hx hb dX1_collect_102 (tgt := 136) (by decide) (fun hc => ?_) (fun hc => ?_)
                        · have hex : hp_z M o ≤ i ∨ hp_k M o ≠ 1 ∨ o ∉ Sy := Or.inr (Or.inl (fun h9 => hc (by rw [h9]; decide)))
                          refine lv_goto hx hb dX1_collect_136 (tgt := 66) (by decide) ?_
                          exact ihC Sy Ty o i rb td tp H locs ls (hI.2.2.2.2.2) (⟨hI.2.1, hI.2.2.1, hex, hI.2.2.2.1⟩) hP hD hS (lv_sub hl [2] rfl)
                        · have hk1 : hp_k M o = 1 := (hp_k1 hW hoL (n := 1) (by decide)).mp hc
                          refine lv_iload_n hx hb dX1_collect_105 rfl (lv_at hl 0 rfl) ?_
                          refine lv_aload_n hx hb dX1_collect_106 rfl (lv_at hl 2 rfl) ?_
                          refine va_get (D := (dC, dI)) (ci := 1) (v := .ref b2) (C := RX1) (T := TX1) (N := 12) hx hb hts inX1 hown hK hP 0 rfl rfl 2 (by decide) (hts _ bw_fl_X1_13) (fun _ h9 => h9) rfl dX1_collect_107 ?_
                          refine lv_iload_n hx hb dX1_collect_110 rfl (lv_at hl 1 rfl) ?_
                          refine hw_iald (j := o) hx hb hK hP 2 1 rfl rfl (rfl) (by omega) (by decide) dX1_collect_111 ?_
                          refine hw_topi (y := nI (hp_z M o)) (hq9.1) ?_
                          refine lv_icmp_ge hx hb dX1_collect_112 (tgt := 136) (by decide) (fun hc => ?_) (fun hc => ?_)
                          · have hex : hp_z M o ≤ i ∨ hp_k M o ≠ 1 ∨ o ∉ Sy := Or.inl ((nI_leI (by omega) (by omega)).mp hc)
                            refine lv_goto hx hb dX1_collect_136 (tgt := 66) (by decide) ?_
                            exact ihC Sy Ty o i rb td tp H locs ls (hI.2.2.2.2.2) (⟨hI.2.1, hI.2.2.1, hex, hI.2.2.2.1⟩) hP hD hS (lv_sub hl [2] rfl)
                          · have hi : i < hp_z M o := Nat.lt_of_not_le (fun h9 => hc ((nI_leI (by omega) (by omega)).mpr h9))
                            refine lv_aload_n hx hb dX1_collect_115 rfl (lv_at hl 2 rfl) ?_
                            refine lv_aload_n hx hb dX1_collect_116 rfl (lv_at hl 2 rfl) ?_
                            refine va_get (D := (dC, dI)) (ci := 1) (v := .ref b4) (C := RX1) (T := TX1) (N := 12) hx hb hts inX1 hown hK hP 0 rfl rfl 4 (by decide) (hts _ bw_fl_X1_19) (fun _ h9 => h9) rfl dX1_collect_117 ?_
                            refine lv_bipush (v := 40) hx hb dX1_collect_120 (by decide) ?_
                            refine lv_iload_n hx hb dX1_collect_122 rfl (lv_at hl 1 rfl) ?_
                            refine lv_imul hx hb dX1_collect_123 ?_
                            refine lv_iload_n hx hb dX1_collect_124 rfl (lv_at hl 0 rfl) ?_
                            refine lv_iadd hx hb dX1_collect_125 ?_
                            refine hw_iald (j := 40 * o + i) hx hb hK hP 4 3 rfl rfl (hp_40i o i) (by omega) (by decide) dX1_collect_126 ?_
                            refine hw_topi (y := nI (hp_l M o i)) (hq9.2.1 (by omega) i hi) ?_
                            refine hw_callv (va_runV (As := [.int (nI (hp_l M o i))]) (rest := []) ⟨hx, hb, hml, hown, hts⟩ (c_X1_reach l dC dI g0 b1 b2 b3 b4 b5 b6 b7 b8 e1 e2 e3 e4 e5 e6 e7 e8 0 kd zs od lk nu rb rg td ob (co + 1) tp _ M hW Sy Ty hI.2.1 (hp_l M o i) (hW.2.2.2.2.1 o hoL (by omega) i hi)) (cwV 1 hts gw_X1_53 rfl rfl rfl ⟨rfl, by decide, by decide, by decide +kernel⟩ ⟨Nat.le_of_ble_eq_true rfl, Nat.le_of_ble_eq_true rfl⟩) ⟨hw_blind, va_recv (q0 := 0) (ci := 1) (q := (RX1, TX1, 12)) hK hP rfl rfl, hw_pay hP hK hD⟩ rfl rfl hl.1 rfl (lv_room (Nat.le_of_ble_eq_true rfl)) dX1_collect_127 ⟨by decide, by decide⟩) hD hS hA (fun u9 H locs hw hP hD hS => ?_)
                            obtain ⟨rb, td, tp⟩ := u9
                            have hP : va_P (dC, dI) vwCl [(g0, .inr (1, [.int 0, .ref b1, .ref b2, .ref b3, .ref b4, .ref b5, .ref b6, .ref b7, .ref b8, .int ob, .int (co + 1), .int tp])), (b1, .inl (e1, 301, .inl kd)), (b2, .inl (e2, 301, .inl zs)), (b3, .inl (e3, 301, .inl od)), (b4, .inl (e4, 12040, .inl lk)), (b5, .inl (e5, 12040, .inr (.inl nu))), (b6, .inl (e6, 301, .inl rb)), (b7, .inl (e7, 16, .inl rg)), (b8, .inl (e8, 301, .inl td))] H := hP
                            have hD : va_D A [(g0, .inr (1, [.int 0, .ref b1, .ref b2, .ref b3, .ref b4, .ref b5, .ref b6, .ref b7, .ref b8, .int ob, .int (co + 1), .int tp])), (b1, .inl (e1, 301, .inl kd)), (b2, .inl (e2, 301, .inl zs)), (b3, .inl (e3, 301, .inl od)), (b4, .inl (e4, 12040, .inl lk)), (b5, .inl (e5, 12040, .inr (.inl nu))), (b6, .inl (e6, 301, .inl rb)), (b7, .inl (e7, 16, .inl rg)), (b8, .inl (e8, 301, .inl td))] := hD
                            have hlen3 := hp_K_len hW hw
                            have hcost := hp_cost (T := Ty) (x := hp_l M o i) hlen3.1 hlen2.1
                            refine lv_iinc (k := 0) (v := nI (i + 1)) hx hb dX1_collect_130 hl rfl (nI_1 i) (by decide) rfl (fun ls hl => ?_)
                            have hl : lv_has ls 5 [(2, .int (nI (i + 1))), (1, .int (nI o)), (0, .ref g0)] := hl
                            refine lv_goto hx hb dX1_collect_133 (tgt := 95) (by decide) ?_
                            exact ihD (i + 1) (hp_nt Sy (hp_l M o i)) (hp_tt Sy Ty (hp_l M o i)) rb td tp H locs ls (by omega) (⟨hi, hw, hp_Y_s (hp_Y_reach hI.2.2.1 ((Classical.em (hp_l M o i = 0)).elim Or.inl (fun h9 => Or.inr (hp_R.step (hI.2.2.1.1 o hI.2.2.2.2.1) hk1 hi h9)))) (fun h9 => hp_nt_self h9), hp_Yr_up hI.2.2.2.1 (fun x hx => hp_nt_old hx), hp_nt_old hI.2.2.2.2.1, by omega⟩) hP hD hS (lv_sub hl [0, 1, 2] rfl)
                    exact loopD _ 0 Sx T2 rb td (nI T2.length) H locs ls (Nat.lt_succ_self _) (⟨Nat.zero_le _, hpop.1, hp_Y_pop hI.2.1 hI.2.2.1, hI.2.2.2, hpop.2.2.1, by simp only [List.length_append, List.length_cons, List.length_nil] at hm; omega⟩) hP hD hS (lv_sub hl [0, 1, 2] rfl)
              exact loopC _ Sx Tx 0 0 rb td tp H locs ls (Nat.lt_succ_self _) (⟨hI.2.1, hI.2.2.1, Or.inr (Or.inr (fun h9 => hp_in_pos hW (hI.2.1.2.2.2.1 0 h9) rfl)), hI.2.2.2⟩) hP hD hS (lv_sub hl [1] rfl)
            · have hk : k < 16 := Nat.lt_of_not_le (fun h9 => hc ((nI_leI (a := 16) (by decide) (by omega)).mpr h9))
              refine lv_aload_n hx hb dX1_collect_50 rfl (lv_at hl 1 rfl) ?_
              refine lv_aload_n hx hb dX1_collect_51 rfl (lv_at hl 1 rfl) ?_
              refine va_get (D := (dC, dI)) (ci := 1) (v := .ref b7) (C := RX1) (T := TX1) (N := 12) hx hb hts inX1 hown hK hP 0 rfl rfl 7 (by decide) (hts _ bw_fl_X1_30) (fun _ h9 => h9) rfl dX1_collect_52 ?_
              refine lv_iload_n hx hb dX1_collect_55 rfl (lv_at hl 0 rfl) ?_
              refine hw_iald (j := k) hx hb hK hP 7 6 rfl rfl (rfl) (hk) (by decide) dX1_collect_56 ?_
              refine hw_topi (y := nI (hp_r M k)) (hQ.2.2.1 k hk) ?_
              refine hw_callv (va_runV (As := [.int (nI (hp_r M k))]) (rest := []) ⟨hx, hb, hml, hown, hts⟩ (c_X1_reach l dC dI g0 b1 b2 b3 b4 b5 b6 b7 b8 e1 e2 e3 e4 e5 e6 e7 e8 0 kd zs od lk nu rb rg td ob (co + 1) tp _ M hW Sx Tx hI.2.1 (hp_r M k) (hW.2.2.2.1 k hk)) (cwV 1 hts gw_X1_53 rfl rfl rfl ⟨rfl, by decide, by decide, by decide +kernel⟩ ⟨Nat.le_of_ble_eq_true rfl, Nat.le_of_ble_eq_true rfl⟩) ⟨hw_blind, va_recv (q0 := 0) (ci := 1) (q := (RX1, TX1, 12)) hK hP rfl rfl, hw_pay hP hK hD⟩ rfl rfl hl.1 rfl (lv_room (Nat.le_of_ble_eq_true rfl)) dX1_collect_57 ⟨by decide, by decide⟩) hD hS hA (fun u9 H locs hw hP hD hS => ?_)
              obtain ⟨rb, td, tp⟩ := u9
              have hP : va_P (dC, dI) vwCl [(g0, .inr (1, [.int 0, .ref b1, .ref b2, .ref b3, .ref b4, .ref b5, .ref b6, .ref b7, .ref b8, .int ob, .int (co + 1), .int tp])), (b1, .inl (e1, 301, .inl kd)), (b2, .inl (e2, 301, .inl zs)), (b3, .inl (e3, 301, .inl od)), (b4, .inl (e4, 12040, .inl lk)), (b5, .inl (e5, 12040, .inr (.inl nu))), (b6, .inl (e6, 301, .inl rb)), (b7, .inl (e7, 16, .inl rg)), (b8, .inl (e8, 301, .inl td))] H := hP
              have hD : va_D A [(g0, .inr (1, [.int 0, .ref b1, .ref b2, .ref b3, .ref b4, .ref b5, .ref b6, .ref b7, .ref b8, .int ob, .int (co + 1), .int tp])), (b1, .inl (e1, 301, .inl kd)), (b2, .inl (e2, 301, .inl zs)), (b3, .inl (e3, 301, .inl od)), (b4, .inl (e4, 12040, .inl lk)), (b5, .inl (e5, 12040, .inr (.inl nu))), (b6, .inl (e6, 301, .inl rb)), (b7, .inl (e7, 16, .inl rg)), (b8, .inl (e8, 301, .inl td))] := hD
              refine lv_iinc (k := 0) (v := nI (k + 1)) hx hb dX1_collect_60 hl rfl (nI_1 k) (by decide) rfl (fun ls hl => ?_)
              have hl : lv_has ls 5 [(1, .int (nI (k + 1))), (0, .ref g0)] := hl
              refine lv_goto hx hb dX1_collect_63 (tgt := 44) (by decide) ?_
              exact ihB (k + 1) (hp_nt Sx (hp_r M k)) (hp_tt Sx Tx (hp_r M k)) rb td tp H locs ls (by omega) (⟨hk, hw, hp_Y_reach hI.2.2.1 ((Classical.em (hp_r M k = 0)).elim Or.inl (fun h9 => Or.inr (hp_R.reg hk h9))), hp_Yr_s (hp_Yr_up hI.2.2.2 (fun x hx => hp_nt_old hx)) (fun h9 => hp_nt_self h9)⟩) hP hD hS (lv_sub hl [0, 1] rfl)
        exact loopB _ 0 ([]) ([]) rb td (nI 0) H locs ls (Nat.lt_succ_self _) (⟨Nat.zero_le _, hp_K_0 (fun o h9 => hI.2 o (by omega)), hp_Y_0 M, fun r h9 => absurd h9 (Nat.not_lt_zero _)⟩) hP hD hS (lv_sub hl [0, 1] rfl)
      · have hk : k < 301 := Nat.lt_of_not_le (fun h9 => hc ((nI_ltI (a := 300) (by decide) (by omega)).mpr h9))
        refine lv_aload_n hx hb dX1_collect_24 rfl (lv_at hl 1 rfl) ?_
        refine va_get (D := (dC, dI)) (ci := 1) (v := .ref b6) (C := RX1) (T := TX1) (N := 12) hx hb hts inX1 hown hK hP 0 rfl rfl 6 (by decide) (hts _ bw_fl_X1_26) (fun _ h9 => h9) rfl dX1_collect_25 ?_
        refine lv_iload_n hx hb dX1_collect_28 rfl (lv_at hl 0 rfl) ?_
        refine lv_iconst (v := 0) hx hb dX1_collect_29 (by decide) ?_
        refine hw_zast (j := k) hx hb hK hP hD hS 6 5 rfl rfl (rfl) (hk) (by decide) (by decide) dX1_collect_30 (fun H locs hP hD hS => ?_)
        have hP : va_P (dC, dI) vwCl [(g0, .inr (1, [.int 0, .ref b1, .ref b2, .ref b3, .ref b4, .ref b5, .ref b6, .ref b7, .ref b8, .int ob, .int (co + 1), .int tp])), (b1, .inl (e1, 301, .inl kd)), (b2, .inl (e2, 301, .inl zs)), (b3, .inl (e3, 301, .inl od)), (b4, .inl (e4, 12040, .inl lk)), (b5, .inl (e5, 12040, .inr (.inl nu))), (b6, .inl (e6, 301, .inl (upd rb k 0))), (b7, .inl (e7, 16, .inl rg)), (b8, .inl (e8, 301, .inl td))] H := hP
        have hD : va_D A [(g0, .inr (1, [.int 0, .ref b1, .ref b2, .ref b3, .ref b4, .ref b5, .ref b6, .ref b7, .ref b8, .int ob, .int (co + 1), .int tp])), (b1, .inl (e1, 301, .inl kd)), (b2, .inl (e2, 301, .inl zs)), (b3, .inl (e3, 301, .inl od)), (b4, .inl (e4, 12040, .inl lk)), (b5, .inl (e5, 12040, .inr (.inl nu))), (b6, .inl (e6, 301, .inl (upd rb k 0))), (b7, .inl (e7, 16, .inl rg)), (b8, .inl (e8, 301, .inl td))] := hD
        refine lv_iinc (k := 0) (v := nI (k + 1)) hx hb dX1_collect_31 hl rfl (nI_1 k) (by decide) rfl (fun ls hl => ?_)
        have hl : lv_has ls 5 [(1, .int (nI (k + 1))), (0, .ref g0)] := hl
        refine lv_goto hx hb dX1_collect_34 (tgt := 17) (by decide) ?_
        exact ihA (k + 1) (upd rb k 0) H locs ls (by omega) (⟨hk, fun o h9 => by
            by_cases e9 : o = k
            · subst e9; exact pk_us
            · rw [pk_un e9]; exact hI.2 o (by omega)⟩) hP hD hS (lv_sub hl [0, 1] rfl)
  exact loopA _ 0 rb H locs ls (Nat.lt_succ_self _) (⟨Nat.zero_le _, fun o h9 => absurd h9 (Nat.not_lt_zero _)⟩) hP hD hS (lv_sub hl [0, 1] rfl)
end
section
theorem hp_41 {n : Int32} : ¬ n ≤ 40 ↔ (41 : Int32) ≤ n := by
  rw [Int32.le_iff_toInt_le, Int32.le_iff_toInt_le]
  have e1 : (40 : Int32).toInt = 40 := by decide
  have e2 : (41 : Int32).toInt = 41 := by decide
  rw [e1, e2]; omega
theorem hp_le2 {n : Int32} : ¬ n ≤ 2 ↔ (3 : Int32) ≤ n := by
  rw [Int32.le_iff_toInt_le, Int32.le_iff_toInt_le]
  have e1 : (2 : Int32).toInt = 2 := by decide
  have e2 : (3 : Int32).toInt = 3 := by decide
  rw [e1, e2]; omega
theorem hp_kz {M : hp_S} (hW : hp_W M) {o : Nat} : hp_k M o = 0 ↔ o ∉ hp_L M := by
  constructor
  · intro h ho
    have := (hW.2.1 o ho).2.2.1
    omega
  · exact hW.2.2.1 o
/-- all numbers below o are taken: then there is one from o on -/
theorem hp_find {M : hp_S} (hW : hp_W M) (hlt : (hp_L M).length < 300) {o : Nat} (h : ∀ x, 1 ≤ x → x < o → x ∈ hp_L M) (ho : o ∈ hp_L M) : o + 1 ≤ 300 := by
  obtain ⟨f, f1, f2, f3⟩ := hp_free hlt
  have h1 : ¬ f < o := fun e => f3 (h f f1 e)
  have h2 : f ≠ o := fun e => f3 (e ▸ ho)
  omega
theorem hp_k_le {M : hp_S} (hW : hp_W M) (o : Nat) : hp_k M o ≤ 3 := by
  by_cases h : o ∈ hp_L M
  · exact (hW.2.1 o h).2.2.2.1
  · rw [hW.2.2.1 o h]; omega
theorem hp_kI {M : hp_S} (hW : hp_W M) {o : Nat} : nI (hp_k M o) = 0 ↔ o ∉ hp_L M := by
  have h3 := hp_k_le hW o
  rw [← hp_kz hW]
  exact ⟨fun h => (nI_eq (b := 0) (by omega) (by decide)).mp (h.trans nI_0.symm), fun h => by rw [h]; exact nI_0⟩
end
section
set_option maxHeartbeats 4000000 in
set_option maxRecDepth 100000 in
theorem c0_X1_made (l : Launch) (dC : Nat → ClassId) (dI : Nat → Nat → Nat) (g0 b1 b2 b3 b4 b5 b6 b7 b8 : Nat) (e1 e2 e3 e4 e5 e6 e7 e8 : ClassId) (th : Int32) (kd zs od lk : Nat → Int32) (nu : Nat → Int64) (rb rg td : Nat → Int32) (ob co tp : Int32) (sz : Nat) (M : hp_S) (hW : hp_W M) (hQ : hp_Q M kd zs od lk nu rg ob co) (k n : Nat) (hk1 : 1 ≤ k) (hk4 : k < 4) (hn : n ≤ 40) (hw3 : k = 3 → n = 1) (hfull : ¬ hp_tk (hp_rm M n) + (1 + n) ≤ 300) : Met l yX1_made wsX1_made ({ frames := 2, cells := 0, slots := 0, locals := 50 }) (va_Pc [.ref g0, .int (nI k), .int (nI n)] (hw_pre (dC, dI) vwCl [(e1, .int), (e2, .int), (e3, .int), (e4, .int), (e5, .long), (e6, .boolean), (e7, .int), (e8, .int)] [(g0, .inr (1, [.int th, .ref b1, .ref b2, .ref b3, .ref b4, .ref b5, .ref b6, .ref b7, .ref b8, .int ob, .int co, .int tp])), (b1, .inl (e1, 301, .inl kd)), (b2, .inl (e2, 301, .inl zs)), (b3, .inl (e3, 301, .inl od)), (b4, .inl (e4, 12040, .inl lk)), (b5, .inl (e5, 12040, .inr (.inl nu))), (b6, .inl (e6, 301, .inl rb)), (b7, .inl (e7, 16, .inl rg)), (b8, .inl (e8, 301, .inl td))] sz)) (va_Qi (fun (r : Int32) (u : Int32 × (Nat → Int32) × (Nat → Int32) × (Nat → Int32) × (Nat → Int32) × (Nat → Int64) × (Nat → Int32) × (Nat → Int32) × (Nat → Int32) × Int32 × Int32 × Int32) => r = 0 ∧ hp_Q (hp_rm M n) u.2.1 u.2.2.1 u.2.2.2.1 u.2.2.2.2.1 u.2.2.2.2.2.1 u.2.2.2.2.2.2.2.1 u.2.2.2.2.2.2.2.2.2.1 u.2.2.2.2.2.2.2.2.2.2.1) (fun u t => hw_B (dC, dI) vwCl [(e1, .int), (e2, .int), (e3, .int), (e4, .int), (e5, .long), (e6, .boolean), (e7, .int), (e8, .int)] (va_A [(g0, .inr (1, [.int th, .ref b1, .ref b2, .ref b3, .ref b4, .ref b5, .ref b6, .ref b7, .ref b8, .int ob, .int co, .int tp])), (b1, .inl (e1, 301, .inl kd)), (b2, .inl (e2, 301, .inl zs)), (b3, .inl (e3, 301, .inl od)), (b4, .inl (e4, 12040, .inl lk)), (b5, .inl (e5, 12040, .inr (.inl nu))), (b6, .inl (e6, 301, .inl rb)), (b7, .inl (e7, 16, .inl rg)), (b8, .inl (e8, 301, .inl td))] sz) ((fun u : Int32 × (Nat → Int32) × (Nat → Int32) × (Nat → Int32) × (Nat → Int32) × (Nat → Int64) × (Nat → Int32) × (Nat → Int32) × (Nat → Int32) × Int32 × Int32 × Int32 => [(g0, .inr (1, [.int u.1, .ref b1, .ref b2, .ref b3, .ref b4, .ref b5, .ref b6, .ref b7, .ref b8, .int u.2.2.2.2.2.2.2.2.2.1, .int u.2.2.2.2.2.2.2.2.2.2.1, .int u.2.2.2.2.2.2.2.2.2.2.2])), (b1, .inl (e1, 301, .inl u.2.1)), (b2, .inl (e2, 301, .inl u.2.2.1)), (b3, .inl (e3, 301, .inl u.2.2.2.1)), (b4, .inl (e4, 12040, .inl u.2.2.2.2.1)), (b5, .inl (e5, 12040, .inr (.inl u.2.2.2.2.2.1))), (b6, .inl (e6, 301, .inl u.2.2.2.2.2.2.1)), (b7, .inl (e7, 16, .inl u.2.2.2.2.2.2.2.1)), (b8, .inl (e8, 301, .inl u.2.2.2.2.2.2.2.2.1))]) u) t) (va_A [(g0, .inr (1, [.int th, .ref b1, .ref b2, .ref b3, .ref b4, .ref b5, .ref b6, .ref b7, .ref b8, .int ob, .int co, .int tp])), (b1, .inl (e1, 301, .inl kd)), (b2, .inl (e2, 301, .inl zs)), (b3, .inl (e3, 301, .inl od)), (b4, .inl (e4, 12040, .inl lk)), (b5, .inl (e5, 12040, .inr (.inl nu))), (b6, .inl (e6, 301, .inl rb)), (b7, .inl (e7, 16, .inl rg)), (b8, .inl (e8, 301, .inl td))] sz)) 0 0 (va_A [(g0, .inr (1, [.int th, .ref b1, .ref b2, .ref b3, .ref b4, .ref b5, .ref b6, .ref b7, .ref b8, .int ob, .int co, .int tp])), (b1, .inl (e1, 301, .inl kd)), (b2, .inl (e2, 301, .inl zs)), (b3, .inl (e3, 301, .inl od)), (b4, .inl (e4, 12040, .inl lk)), (b5, .inl (e5, 12040, .inr (.inl nu))), (b6, .inl (e6, 301, .inl rb)), (b7, .inl (e7, 16, .inl rg)), (b8, .inl (e8, 301, .inl td))] sz) := by
  refine Met.ofW (cc := cX1_made) (maxL := 6) (ret := some .int) (by decide) rfl ?_
  intro p e s m args below meth c s₁ B hml hv
  obtain ⟨hargs, hsz, hP, hK, hD0⟩ := hv
  have hx := B.exec
  have hb := B.bytes
  have hr := B.returns
  have hts : ∀ w ∈ wb, w.before _ s = true := fun w h => atoms_spec (ws := wsX1_made) B.pre w (List.mem_cons_of_mem _ h)
  have hown : s.vm.findClass RX1 = some m.cls := findClass_of_methodNamed B.named
  have hlocks := B.notSynchronized
  subst hsz
  have hD := hD0.self (sz := s.heap.size)
  generalize hAe : va_A [(g0, .inr (1, [.int th, .ref b1, .ref b2, .ref b3, .ref b4, .ref b5, .ref b6, .ref b7, .ref b8, .int ob, .int co, .int tp])), (b1, .inl (e1, 301, .inl kd)), (b2, .inl (e2, 301, .inl zs)), (b3, .inl (e3, 301, .inl od)), (b4, .inl (e4, 12040, .inl lk)), (b5, .inl (e5, 12040, .inr (.inl nu))), (b6, .inl (e6, 301, .inl rb)), (b7, .inl (e7, 16, .inl rg)), (b8, .inl (e8, 301, .inl td))] s.heap.size = A at hD ⊢
  have hA : ∀ q : Nat, s.heap.size ≤ q → A q := fun q h => by rw [← hAe]; exact Or.inr h
  have hS : va_S A s.heap s.heap [] := va_S.rf
  generalize hQ9 : MQ below (va_Qi (fun (r : Int32) (u : Int32 × (Nat → Int32) × (Nat → Int32) × (Nat → Int32) × (Nat → Int32) × (Nat → Int64) × (Nat → Int32) × (Nat → Int32) × (Nat → Int32) × Int32 × Int32 × Int32) => r = 0 ∧ hp_Q (hp_rm M n) u.2.1 u.2.2.1 u.2.2.2.1 u.2.2.2.2.1 u.2.2.2.2.2.1 u.2.2.2.2.2.2.2.1 u.2.2.2.2.2.2.2.2.2.1 u.2.2.2.2.2.2.2.2.2.2.1) (fun u t => hw_B (dC, dI) vwCl [(e1, .int), (e2, .int), (e3, .int), (e4, .int), (e5, .long), (e6, .boolean), (e7, .int), (e8, .int)] A ((fun u : Int32 × (Nat → Int32) × (Nat → Int32) × (Nat → Int32) × (Nat → Int32) × (Nat → Int64) × (Nat → Int32) × (Nat → Int32) × (Nat → Int32) × Int32 × Int32 × Int32 => [(g0, .inr (1, [.int u.1, .ref b1, .ref b2, .ref b3, .ref b4, .ref b5, .ref b6, .ref b7, .ref b8, .int u.2.2.2.2.2.2.2.2.2.1, .int u.2.2.2.2.2.2.2.2.2.2.1, .int u.2.2.2.2.2.2.2.2.2.2.2])), (b1, .inl (e1, 301, .inl u.2.1)), (b2, .inl (e2, 301, .inl u.2.2.1)), (b3, .inl (e3, 301, .inl u.2.2.2.1)), (b4, .inl (e4, 12040, .inl u.2.2.2.2.1)), (b5, .inl (e5, 12040, .inr (.inl u.2.2.2.2.2.1))), (b6, .inl (e6, 301, .inl u.2.2.2.2.2.2.1)), (b7, .inl (e7, 16, .inl u.2.2.2.2.2.2.2.1)), (b8, .inl (e8, 301, .inl u.2.2.2.2.2.2.2.2.1))]) u) t) A) args s 0 0 A = Q9
  have hl := lv_entry ([.ref g0, .int (nI k), .int (nI n)]) (n := 6) (Nat.le_of_ble_eq_true rfl)
  rw [show entryFrame m args 6 = _ from (congrArg (fun z => entryFrame m z 6) hargs).trans (lg_entry_eq m [.ref g0, .int (nI k), .int (nI n)] 6)]
  generalize (lg_sl ([.ref g0, .int (nI k), .int (nI n)]) ++ List.replicate (6 - (lg_sl ([.ref g0, .int (nI k), .int (nI n)])).length) Slot.unset).toArray = ls at hl ⊢
  have hl : lv_has ls 6 [(0, .ref g0), (1, .int (nI k)), (2, .int (nI n))] := hl
  obtain ⟨H, hH⟩ : ∃ H, H = s.heap := ⟨_, rfl⟩
  rw [← hH] at hP
  have hS : va_S A s.heap H [] := by rw [hH]; exact hS
  rw [← hH]
  generalize ([] : List Loc) = locs at hS ⊢
  have hW1 := hp_rm_W hW n
  have hT := hW.2.2.2.2.2
  have hT1 := hW1.2.2.2.2.2
  have hL1 := hp_len (hp_z (hp_rm M n)) (hp_L (hp_rm M n))
  have tail31 : ∀ (th : Int32) (kd : Nat → Int32) (zs : Nat → Int32) (od : Nat → Int32) (lk : Nat → Int32) (nu : Nat → Int64) (rb : Nat → Int32) (rg : Nat → Int32) (td : Nat → Int32) (ob : Int32) (co : Int32) (tp : Int32) (H : Heap) (locs : List Loc) (ls : Array Slot), (hp_Q (hp_rm M n) kd zs od lk nu rg ob co) → va_P (dC, dI) vwCl [(g0, .inr (1, [.int th, .ref b1, .ref b2, .ref b3, .ref b4, .ref b5, .ref b6, .ref b7, .ref b8, .int ob, .int co, .int tp])), (b1, .inl (e1, 301, .inl kd)), (b2, .inl (e2, 301, .inl zs)), (b3, .inl (e3, 301, .inl od)), (b4, .inl (e4, 12040, .inl lk)), (b5, .inl (e5, 12040, .inr (.inl nu))), (b6, .inl (e6, 301, .inl rb)), (b7, .inl (e7, 16, .inl rg)), (b8, .inl (e8, 301, .inl td))] H → va_D A [(g0, .inr (1, [.int th, .ref b1, .ref b2, .ref b3, .ref b4, .ref b5, .ref b6, .ref b7, .ref b8, .int ob, .int co, .int tp])), (b1, .inl (e1, 301, .inl kd)), (b2, .inl (e2, 301, .inl zs)), (b3, .inl (e3, 301, .inl od)), (b4, .inl (e4, 12040, .inl lk)), (b5, .inl (e5, 12040, .inr (.inl nu))), (b6, .inl (e6, 301, .inl rb)), (b7, .inl (e7, 16, .inl rg)), (b8, .inl (e8, 301, .inl td))] → va_S A s.heap H locs → lv_has ls 6 [(0, .ref g0), (1, .int (nI k)), (2, .int (nI n)), (3, .int (nI (1 + n)))] → W p l e (headSpec wsX1_made ({ frames := 2, cells := 0, slots := 0, locals := 50 })).room s m args below meth c H locs 0 0 Q9 (F0 m 31 ls []) := by
    intro th kd zs od lk nu rb rg td ob co tp H locs ls hI hP hD hS hl
    refine lv_aload_n hx hb dX1_made_31 rfl (lv_at hl 0 rfl) ?_
    refine W.callR (W.runV (As := []) (rest := []) ⟨hx, hb, hml, hown, hts⟩ (c_X1_cells l dC dI g0 b1 b2 b3 b4 b5 b6 b7 b8 e1 e2 e3 e4 e5 e6 e7 e8 th kd zs od lk nu rb rg td ob co tp _ (hp_rm M n) hW1 hI) (cwV 0 hts gw_X1_57 rfl rfl rfl ⟨rfl, by decide, by decide, by decide +kernel⟩ ⟨Nat.le_of_ble_eq_true rfl, Nat.le_of_ble_eq_true rfl⟩) ⟨hw_blind, va_recv (q0 := 0) (ci := 1) (q := (RX1, TX1, 12)) hK hP rfl rfl, hw_pay hP hK hD⟩ rfl rfl hl.1 rfl (lv_room (Nat.le_of_ble_eq_true rfl)) dX1_made_32 ⟨by decide, by decide⟩) ?_
    refine W.eq (g2 := F0 m 35 ls [.int (nI (hp_tk (hp_rm M n)))]) rfl ?_
    refine lv_iload_n hx hb dX1_made_35 rfl (lv_at hl 3 rfl) ?_
    refine lv_iadd hx hb dX1_made_36 ?_
    refine hw_topi (y := nI (hp_tk (hp_rm M n) + (1 + n))) (nI_add _ _) ?_
    refine lv_sipush (v := 300) hx hb dX1_made_37 (by decide) ?_
    refine lv_icmp_le hx hb dX1_made_40 (tgt := 45) (by decide) (fun hc => ?_) (fun hc => ?_)
    · exact absurd ((nI_leI (b := 300) (by omega) (by decide)).mp hc) hfull
    · skip
      refine lv_iconst (v := 0) hx hb dX1_made_43 (by decide) ?_
      subst hQ9
      exact W.iret (v := 0) hx hb hr (fun t ht hWm => ⟨⟨0, (th, kd, zs, od, lk, nu, rb, rg, td, ob, co, tp), rfl, ⟨rfl, hI⟩, by rw [ht]; exact hP, va_K.moved hWm.alike hK, hD⟩, hS.F ht⟩) hS.2.2 dX1_made_44
  have tail12 : ∀ (z9 : Unit) (H : Heap) (locs : List Loc) (ls : Array Slot), (True) → va_P (dC, dI) vwCl [(g0, .inr (1, [.int th, .ref b1, .ref b2, .ref b3, .ref b4, .ref b5, .ref b6, .ref b7, .ref b8, .int ob, .int co, .int tp])), (b1, .inl (e1, 301, .inl kd)), (b2, .inl (e2, 301, .inl zs)), (b3, .inl (e3, 301, .inl od)), (b4, .inl (e4, 12040, .inl lk)), (b5, .inl (e5, 12040, .inr (.inl nu))), (b6, .inl (e6, 301, .inl rb)), (b7, .inl (e7, 16, .inl rg)), (b8, .inl (e8, 301, .inl td))] H → va_D A [(g0, .inr (1, [.int th, .ref b1, .ref b2, .ref b3, .ref b4, .ref b5, .ref b6, .ref b7, .ref b8, .int ob, .int co, .int tp])), (b1, .inl (e1, 301, .inl kd)), (b2, .inl (e2, 301, .inl zs)), (b3, .inl (e3, 301, .inl od)), (b4, .inl (e4, 12040, .inl lk)), (b5, .inl (e5, 12040, .inr (.inl nu))), (b6, .inl (e6, 301, .inl rb)), (b7, .inl (e7, 16, .inl rg)), (b8, .inl (e8, 301, .inl td))] → va_S A s.heap H locs → lv_has ls 6 [(0, .ref g0), (1, .int (nI k)), (2, .int (nI n))] → W p l e (headSpec wsX1_made ({ frames := 2, cells := 0, slots := 0, locals := 50 })).room s m args below meth c H locs 0 0 Q9 (F0 m 12 ls [.int (nI (1 + n))]) := by
    intro z9 H locs ls hI hP hD hS hl
    refine lv_istore_n hx hb dX1_made_12 rfl hl (by decide) rfl (fun ls hl => ?_)
    have hl : lv_has ls 6 [(3, .int (nI (1 + n))), (0, .ref g0), (1, .int (nI k)), (2, .int (nI n))] := hl
    refine lv_aload_n hx hb dX1_made_13 rfl (lv_at hl 1 rfl) ?_
    refine W.callR (W.runV (As := []) (rest := []) ⟨hx, hb, hml, hown, hts⟩ (c_X1_cells l dC dI g0 b1 b2 b3 b4 b5 b6 b7 b8 e1 e2 e3 e4 e5 e6 e7 e8 th kd zs od lk nu rb rg td ob co tp _ M hW hQ) (cwV 0 hts gw_X1_57 rfl rfl rfl ⟨rfl, by decide, by decide, by decide +kernel⟩ ⟨Nat.le_of_ble_eq_true rfl, Nat.le_of_ble_eq_true rfl⟩) ⟨hw_blind, va_recv (q0 := 0) (ci := 1) (q := (RX1, TX1, 12)) hK hP rfl rfl, hw_pay hP hK hD⟩ rfl rfl hl.1 rfl (lv_room (Nat.le_of_ble_eq_true rfl)) dX1_made_14 ⟨by decide, by decide⟩) ?_
    refine W.eq (g2 := F0 m 17 ls [.int (nI (hp_tk M))]) rfl ?_
    refine lv_iload_n hx hb dX1_made_17 rfl (lv_at hl 0 rfl) ?_
    refine lv_iadd hx hb dX1_made_18 ?_
    refine hw_topi (y := nI (hp_tk M + (1 + n))) (nI_add _ _) ?_
    refine lv_sipush (v := 300) hx hb dX1_made_19 (by decide) ?_
    refine lv_icmp_le hx hb dX1_made_22 (tgt := 31) (by decide) (fun hc => ?_) (fun hc => ?_)
    · have hf : hp_tk M + (1 + n) ≤ 300 := (nI_leI (b := 300) (by omega) (by decide)).mp hc
      exact tail31 th kd zs od lk nu rb rg td ob co tp H locs ls (by rw [hp_rm_t hf]; exact hQ) hP hD hS (lv_sub hl [1, 2, 3, 0] rfl)
    · have hf : ¬ hp_tk M + (1 + n) ≤ 300 := fun h9 => hc ((nI_leI (b := 300) (by omega) (by decide)).mpr h9)
      refine lv_aload_n hx hb dX1_made_25 rfl (lv_at hl 1 rfl) ?_
      refine hw_calli (va_runV (As := []) (rest := []) ⟨hx, hb, hml, hown, hts⟩ (c_X1_collect l dC dI g0 b1 b2 b3 b4 b5 b6 b7 b8 e1 e2 e3 e4 e5 e6 e7 e8 th kd zs od lk nu rb rg td ob co tp _ M hW hQ) (cwV 0 hts gw_X1_61 rfl rfl rfl ⟨rfl, by decide, by decide, by decide +kernel⟩ ⟨Nat.le_of_ble_eq_true rfl, Nat.le_of_ble_eq_true rfl⟩) ⟨hw_blind, va_recv (q0 := 0) (ci := 1) (q := (RX1, TX1, 12)) hK hP rfl rfl, hw_pay hP hK hD⟩ rfl rfl hl.1 rfl (lv_room (Nat.le_of_ble_eq_true rfl)) dX1_made_26 ⟨by decide, by decide⟩) hD hS hA (fun r9 u9 H locs hw hP hD hS => ?_)
      obtain ⟨th, kd, od, lk, rb, td, ob, co, tp⟩ := u9
      have hP : va_P (dC, dI) vwCl [(g0, .inr (1, [.int th, .ref b1, .ref b2, .ref b3, .ref b4, .ref b5, .ref b6, .ref b7, .ref b8, .int ob, .int co, .int tp])), (b1, .inl (e1, 301, .inl kd)), (b2, .inl (e2, 301, .inl zs)), (b3, .inl (e3, 301, .inl od)), (b4, .inl (e4, 12040, .inl lk)), (b5, .inl (e5, 12040, .inr (.inl nu))), (b6, .inl (e6, 301, .inl rb)), (b7, .inl (e7, 16, .inl rg)), (b8, .inl (e8, 301, .inl td))] H := hP
      have hD : va_D A [(g0, .inr (1, [.int th, .ref b1, .ref b2, .ref b3, .ref b4, .ref b5, .ref b6, .ref b7, .ref b8, .int ob, .int co, .int tp])), (b1, .inl (e1, 301, .inl kd)), (b2, .inl (e2, 301, .inl zs)), (b3, .inl (e3, 301, .inl od)), (b4, .inl (e4, 12040, .inl lk)), (b5, .inl (e5, 12040, .inr (.inl nu))), (b6, .inl (e6, 301, .inl rb)), (b7, .inl (e7, 16, .inl rg)), (b8, .inl (e8, 301, .inl td))] := hD
      refine lv_istore hx hb dX1_made_29 hl (by decide) rfl (fun ls hl => ?_)
      have hl : lv_has ls 6 [(4, .int r9), (3, .int (nI (1 + n))), (0, .ref g0), (1, .int (nI k)), (2, .int (nI n))] := hl
      exact tail31 th kd zs od lk nu rb rg td ob co tp H locs ls (by rw [hp_rm_f hf]; exact hw.2.1) hP hD hS (lv_sub hl [2, 3, 4, 1] rfl)
  refine lv_iconst (v := 1) hx hb dX1_made_0 (by decide) ?_
  refine lv_iload_n hx hb dX1_made_1 rfl (lv_at hl 1 rfl) ?_
  refine lv_iconst (v := 3) hx hb dX1_made_2 (by decide) ?_
  refine lv_icmp_ne hx hb dX1_made_3 (tgt := 10) (by decide) (fun hc => ?_) (fun hc => ?_)
  · skip
    refine lv_iload_n hx hb dX1_made_10 rfl (lv_at hl 2 rfl) ?_
    refine lv_iadd hx hb dX1_made_11 ?_
    refine hw_topi (y := nI (1 + n)) (hp_1a n) ?_
    exact tail12 () H locs ls (trivial) hP hD hS (lv_sub hl [0, 1, 2] rfl)
  · have hk3 : k = 3 := (nI_eq (b := 3) (by omega) (by decide)).mp hc
    have hn1 := hw3 hk3
    refine lv_iconst (v := 1) hx hb dX1_made_6 (by decide) ?_
    refine lv_goto hx hb dX1_made_7 (tgt := 11) (by decide) ?_
    refine hw_topi (y := nI n) (by rw [hn1]; decide) ?_
    refine lv_iadd hx hb dX1_made_11 ?_
    refine hw_topi (y := nI (1 + n)) (hp_1a n) ?_
    exact tail12 () H locs ls (trivial) hP hD hS (lv_sub hl [0, 1, 2] rfl)

set_option maxHeartbeats 4000000 in
set_option maxRecDepth 100000 in
theorem c1_X1_made (l : Launch) (dC : Nat → ClassId) (dI : Nat → Nat → Nat) (g0 b1 b2 b3 b4 b5 b6 b7 b8 : Nat) (e1 e2 e3 e4 e5 e6 e7 e8 : ClassId) (th : Int32) (kd zs od lk : Nat → Int32) (nu : Nat → Int64) (rb rg td : Nat → Int32) (ob co tp : Int32) (sz : Nat) (M : hp_S) (hW : hp_W M) (hQ : hp_Q M kd zs od lk nu rg ob co) (k n : Nat) (hk1 : 1 ≤ k) (hk4 : k < 4) (hn : n ≤ 40) (hw3 : k = 3 → n = 1) (hfit : hp_tk (hp_rm M n) + (1 + n) ≤ 300) : Met l yX1_made wsX1_made ({ frames := 2, cells := 0, slots := 0, locals := 50 }) (va_Pc [.ref g0, .int (nI k), .int (nI n)] (hw_pre (dC, dI) vwCl [(e1, .int), (e2, .int), (e3, .int), (e4, .int), (e5, .long), (e6, .boolean), (e7, .int), (e8, .int)] [(g0, .inr (1, [.int th, .ref b1, .ref b2, .ref b3, .ref b4, .ref b5, .ref b6, .ref b7, .ref b8, .int ob, .int co, .int tp])), (b1, .inl (e1, 301, .inl kd)), (b2, .inl (e2, 301, .inl zs)), (b3, .inl (e3, 301, .inl od)), (b4, .inl (e4, 12040, .inl lk)), (b5, .inl (e5, 12040, .inr (.inl nu))), (b6, .inl (e6, 301, .inl rb)), (b7, .inl (e7, 16, .inl rg)), (b8, .inl (e8, 301, .inl td))] sz)) (va_Qi (fun (r : Int32) (u : Int32 × (Nat → Int32) × (Nat → Int32) × (Nat → Int32) × (Nat → Int32) × (Nat → Int64) × (Nat → Int32) × (Nat → Int32) × (Nat → Int32) × Int32 × Int32 × Int32) => ∃ o, 1 ≤ o ∧ o ≤ 300 ∧ o ∉ hp_L (hp_rm M n) ∧ r = nI o ∧ hp_Q (hp_mk (hp_rm M n) o k n) u.2.1 u.2.2.1 u.2.2.2.1 u.2.2.2.2.1 u.2.2.2.2.2.1 u.2.2.2.2.2.2.2.1 u.2.2.2.2.2.2.2.2.2.1 u.2.2.2.2.2.2.2.2.2.2.1) (fun u t => hw_B (dC, dI) vwCl [(e1, .int), (e2, .int), (e3, .int), (e4, .int), (e5, .long), (e6, .boolean), (e7, .int), (e8, .int)] (va_A [(g0, .inr (1, [.int th, .ref b1, .ref b2, .ref b3, .ref b4, .ref b5, .ref b6, .ref b7, .ref b8, .int ob, .int co, .int tp])), (b1, .inl (e1, 301, .inl kd)), (b2, .inl (e2, 301, .inl zs)), (b3, .inl (e3, 301, .inl od)), (b4, .inl (e4, 12040, .inl lk)), (b5, .inl (e5, 12040, .inr (.inl nu))), (b6, .inl (e6, 301, .inl rb)), (b7, .inl (e7, 16, .inl rg)), (b8, .inl (e8, 301, .inl td))] sz) ((fun u : Int32 × (Nat → Int32) × (Nat → Int32) × (Nat → Int32) × (Nat → Int32) × (Nat → Int64) × (Nat → Int32) × (Nat → Int32) × (Nat → Int32) × Int32 × Int32 × Int32 => [(g0, .inr (1, [.int u.1, .ref b1, .ref b2, .ref b3, .ref b4, .ref b5, .ref b6, .ref b7, .ref b8, .int u.2.2.2.2.2.2.2.2.2.1, .int u.2.2.2.2.2.2.2.2.2.2.1, .int u.2.2.2.2.2.2.2.2.2.2.2])), (b1, .inl (e1, 301, .inl u.2.1)), (b2, .inl (e2, 301, .inl u.2.2.1)), (b3, .inl (e3, 301, .inl u.2.2.2.1)), (b4, .inl (e4, 12040, .inl u.2.2.2.2.1)), (b5, .inl (e5, 12040, .inr (.inl u.2.2.2.2.2.1))), (b6, .inl (e6, 301, .inl u.2.2.2.2.2.2.1)), (b7, .inl (e7, 16, .inl u.2.2.2.2.2.2.2.1)), (b8, .inl (e8, 301, .inl u.2.2.2.2.2.2.2.2.1))]) u) t) (va_A [(g0, .inr (1, [.int th, .ref b1, .ref b2, .ref b3, .ref b4, .ref b5, .ref b6, .ref b7, .ref b8, .int ob, .int co, .int tp])), (b1, .inl (e1, 301, .inl kd)), (b2, .inl (e2, 301, .inl zs)), (b3, .inl (e3, 301, .inl od)), (b4, .inl (e4, 12040, .inl lk)), (b5, .inl (e5, 12040, .inr (.inl nu))), (b6, .inl (e6, 301, .inl rb)), (b7, .inl (e7, 16, .inl rg)), (b8, .inl (e8, 301, .inl td))] sz)) 0 0 (va_A [(g0, .inr (1, [.int th, .ref b1, .ref b2, .ref b3, .ref b4, .ref b5, .ref b6, .ref b7, .ref b8, .int ob, .int co, .int tp])), (b1, .inl (e1, 301, .inl kd)), (b2, .inl (e2, 301, .inl zs)), (b3, .inl (e3, 301, .inl od)), (b4, .inl (e4, 12040, .inl lk)), (b5, .inl (e5, 12040, .inr (.inl nu))), (b6, .inl (e6, 301, .inl rb)), (b7, .inl (e7, 16, .inl rg)), (b8, .inl (e8, 301, .inl td))] sz) := by
  refine Met.ofW (cc := cX1_made) (maxL := 6) (ret := some .int) (by decide) rfl ?_
  intro p e s m args below meth c s₁ B hml hv
  obtain ⟨hargs, hsz, hP, hK, hD0⟩ := hv
  have hx := B.exec
  have hb := B.bytes
  have hr := B.returns
  have hts : ∀ w ∈ wb, w.before _ s = true := fun w h => atoms_spec (ws := wsX1_made) B.pre w (List.mem_cons_of_mem _ h)
  have hown : s.vm.findClass RX1 = some m.cls := findClass_of_methodNamed B.named
  have hlocks := B.notSynchronized
  subst hsz
  have hD := hD0.self (sz := s.heap.size)
  generalize hAe : va_A [(g0, .inr (1, [.int th, .ref b1, .ref b2, .ref b3, .ref b4, .ref b5, .ref b6, .ref b7, .ref b8, .int ob, .int co, .int tp])), (b1, .inl (e1, 301, .inl kd)), (b2, .inl (e2, 301, .inl zs)), (b3, .inl (e3, 301, .inl od)), (b4, .inl (e4, 12040, .inl lk)), (b5, .inl (e5, 12040, .inr (.inl nu))), (b6, .inl (e6, 301, .inl rb)), (b7, .inl (e7, 16, .inl rg)), (b8, .inl (e8, 301, .inl td))] s.heap.size = A at hD ⊢
  have hA : ∀ q : Nat, s.heap.size ≤ q → A q := fun q h => by rw [← hAe]; exact Or.inr h
  have hS : va_S A s.heap s.heap [] := va_S.rf
  generalize hQ9 : MQ below (va_Qi (fun (r : Int32) (u : Int32 × (Nat → Int32) × (Nat → Int32) × (Nat → Int32) × (Nat → Int32) × (Nat → Int64) × (Nat → Int32) × (Nat → Int32) × (Nat → Int32) × Int32 × Int32 × Int32) => ∃ o, 1 ≤ o ∧ o ≤ 300 ∧ o ∉ hp_L (hp_rm M n) ∧ r = nI o ∧ hp_Q (hp_mk (hp_rm M n) o k n) u.2.1 u.2.2.1 u.2.2.2.1 u.2.2.2.2.1 u.2.2.2.2.2.1 u.2.2.2.2.2.2.2.1 u.2.2.2.2.2.2.2.2.2.1 u.2.2.2.2.2.2.2.2.2.2.1) (fun u t => hw_B (dC, dI) vwCl [(e1, .int), (e2, .int), (e3, .int), (e4, .int), (e5, .long), (e6, .boolean), (e7, .int), (e8, .int)] A ((fun u : Int32 × (Nat → Int32) × (Nat → Int32) × (Nat → Int32) × (Nat → Int32) × (Nat → Int64) × (Nat → Int32) × (Nat → Int32) × (Nat → Int32) × Int32 × Int32 × Int32 => [(g0, .inr (1, [.int u.1, .ref b1, .ref b2, .ref b3, .ref b4, .ref b5, .ref b6, .ref b7, .ref b8, .int u.2.2.2.2.2.2.2.2.2.1, .int u.2.2.2.2.2.2.2.2.2.2.1, .int u.2.2.2.2.2.2.2.2.2.2.2])), (b1, .inl (e1, 301, .inl u.2.1)), (b2, .inl (e2, 301, .inl u.2.2.1)), (b3, .inl (e3, 301, .inl u.2.2.2.1)), (b4, .inl (e4, 12040, .inl u.2.2.2.2.1)), (b5, .inl (e5, 12040, .inr (.inl u.2.2.2.2.2.1))), (b6, .inl (e6, 301, .inl u.2.2.2.2.2.2.1)), (b7, .inl (e7, 16, .inl u.2.2.2.2.2.2.2.1)), (b8, .inl (e8, 301, .inl u.2.2.2.2.2.2.2.2.1))]) u) t) A) args s 0 0 A = Q9
  have hl := lv_entry ([.ref g0, .int (nI k), .int (nI n)]) (n := 6) (Nat.le_of_ble_eq_true rfl)
  rw [show entryFrame m args 6 = _ from (congrArg (fun z => entryFrame m z 6) hargs).trans (lg_entry_eq m [.ref g0, .int (nI k), .int (nI n)] 6)]
  generalize (lg_sl ([.ref g0, .int (nI k), .int (nI n)]) ++ List.replicate (6 - (lg_sl ([.ref g0, .int (nI k), .int (nI n)])).length) Slot.unset).toArray = ls at hl ⊢
  have hl : lv_has ls 6 [(0, .ref g0), (1, .int (nI k)), (2, .int (nI n))] := hl
  obtain ⟨H, hH⟩ : ∃ H, H = s.heap := ⟨_, rfl⟩
  rw [← hH] at hP
  have hS : va_S A s.heap H [] := by rw [hH]; exact hS
  rw [← hH]
  generalize ([] : List Loc) = locs at hS ⊢
  have hW1 := hp_rm_W hW n
  have hT := hW.2.2.2.2.2
  have hT1 := hW1.2.2.2.2.2
  have hL1 := hp_len (hp_z (hp_rm M n)) (hp_L (hp_rm M n))
  have tail31 : ∀ (th : Int32) (kd : Nat → Int32) (zs : Nat → Int32) (od : Nat → Int32) (lk : Nat → Int32) (nu : Nat → Int64) (rb : Nat → Int32) (rg : Nat → Int32) (td : Nat → Int32) (ob : Int32) (co : Int32) (tp : Int32) (H : Heap) (locs : List Loc) (ls : Array Slot), (hp_Q (hp_rm M n) kd zs od lk nu rg ob co) → va_P (dC, dI) vwCl [(g0, .inr (1, [.int th, .ref b1, .ref b2, .ref b3, .ref b4, .ref b5, .ref b6, .ref b7, .ref b8, .int ob, .int co, .int tp])), (b1, .inl (e1, 301, .inl kd)), (b2, .inl (e2, 301, .inl zs)), (b3, .inl (e3, 301, .inl od)), (b4, .inl (e4, 12040, .inl lk)), (b5, .inl (e5, 12040, .inr (.inl nu))), (b6, .inl (e6, 301, .inl rb)), (b7, .inl (e7, 16, .inl rg)), (b8, .inl (e8, 301, .inl td))] H → va_D A [(g0, .inr (1, [.int th, .ref b1, .ref b2, .ref b3, .ref b4, .ref b5, .ref b6, .ref b7, .ref b8, .int ob, .int co, .int tp])), (b1, .inl (e1, 301, .inl kd)), (b2, .inl (e2, 301, .inl zs)), (b3, .inl (e3, 301, .inl od)), (b4, .inl (e4, 12040, .inl lk)), (b5, .inl (e5, 12040, .inr (.inl nu))), (b6, .inl (e6, 301, .inl rb)), (b7, .inl (e7, 16, .inl rg)), (b8, .inl (e8, 301, .inl td))] → va_S A s.heap H locs → lv_has ls 6 [(0, .ref g0), (1, .int (nI k)), (2, .int (nI n)), (3, .int (nI (1 + n)))] → W p l e (headSpec wsX1_made ({ frames := 2, cells := 0, slots := 0, locals := 50 })).room s m args below meth c H locs 0 0 Q9 (F0 m 31 ls []) := by
    intro th kd zs od lk nu rb rg td ob co tp H locs ls hI hP hD hS hl
    refine lv_aload_n hx hb dX1_made_31 rfl (lv_at hl 0 rfl) ?_
    refine W.callR (W.runV (As := []) (rest := []) ⟨hx, hb, hml, hown, hts⟩ (c_X1_cells l dC dI g0 b1 b2 b3 b4 b5 b6 b7 b8 e1 e2 e3 e4 e5 e6 e7 e8 th kd zs od lk nu rb rg td ob co tp _ (hp_rm M n) hW1 hI) (cwV 0 hts gw_X1_57 rfl rfl rfl ⟨rfl, by decide, by decide, by decide +kernel⟩ ⟨Nat.le_of_ble_eq_true rfl, Nat.le_of_ble_eq_true rfl⟩) ⟨hw_blind, va_recv (q0 := 0) (ci := 1) (q := (RX1, TX1, 12)) hK hP rfl rfl, hw_pay hP hK hD⟩ rfl rfl hl.1 rfl (lv_room (Nat.le_of_ble_eq_true rfl)) dX1_made_32 ⟨by decide, by decide⟩) ?_
    refine W.eq (g2 := F0 m 35 ls [.int (nI (hp_tk (hp_rm M n)))]) rfl ?_
    refine lv_iload_n hx hb dX1_made_35 rfl (lv_at hl 3 rfl) ?_
    refine lv_iadd hx hb dX1_made_36 ?_
    refine hw_topi (y := nI (hp_tk (hp_rm M n) + (1 + n))) (nI_add _ _) ?_
    refine lv_sipush (v := 300) hx hb dX1_made_37 (by decide) ?_
    refine lv_icmp_le hx hb dX1_made_40 (tgt := 45) (by decide) (fun hc => ?_) (fun hc => ?_)
    · have hQ1 := hI
      refine lv_iconst (v := 1) hx hb dX1_made_45 (by decide) ?_
      refine hw_topi (y := nI 1) (by decide) ?_
      refine lv_istore hx hb dX1_made_46 hl (by decide) rfl (fun ls hl => ?_)
      have hl : lv_has ls 6 [(4, .int (nI 1)), (0, .ref g0), (1, .int (nI k)), (2, .int (nI n)), (3, .int (nI (1 + n)))] := hl
      have loopF : ∀ (n9 : Nat) (o : Nat) (H : Heap) (locs : List Loc) (ls : Array Slot), 301 - o < n9 → (1 ≤ o ∧ o ≤ 300 ∧ ∀ x, 1 ≤ x → x < o → x ∈ hp_L (hp_rm M n)) → va_P (dC, dI) vwCl [(g0, .inr (1, [.int th, .ref b1, .ref b2, .ref b3, .ref b4, .ref b5, .ref b6, .ref b7, .ref b8, .int ob, .int co, .int tp])), (b1, .inl (e1, 301, .inl kd)), (b2, .inl (e2, 301, .inl zs)), (b3, .inl (e3, 301, .inl od)), (b4, .inl (e4, 12040, .inl lk)), (b5, .inl (e5, 12040, .inr (.inl nu))), (b6, .inl (e6, 301, .inl rb)), (b7, .inl (e7, 16, .inl rg)), (b8, .inl (e8, 301, .inl td))] H → va_D A [(g0, .inr (1, [.int th, .ref b1, .ref b2, .ref b3, .ref b4, .ref b5, .ref b6, .ref b7, .ref b8, .int ob, .int co, .int tp])), (b1, .inl (e1, 301, .inl kd)), (b2, .inl (e2, 301, .inl zs)), (b3, .inl (e3, 301, .inl od)), (b4, .inl (e4, 12040, .inl lk)), (b5, .inl (e5, 12040, .inr (.inl nu))), (b6, .inl (e6, 301, .inl rb)), (b7, .inl (e7, 16, .inl rg)), (b8, .inl (e8, 301, .inl td))] → va_S A s.heap H locs → lv_has ls 6 [(4, .int (nI o)), (0, .ref g0), (1, .int (nI k)), (2, .int (nI n)), (3, .int (nI (1 + n)))] → W p l e (headSpec wsX1_made ({ frames := 2, cells := 0, slots := 0, locals := 50 })).room s m args below meth c H locs 0 0 Q9 (F0 m 48 ls []) := by
        intro n9
        induction n9 with
        | zero => intro o H locs ls hm; exact absurd hm (Nat.not_lt_zero _)
        | succ n9 ihF =>
          intro o H locs ls hm hI hP hD hS hl
          refine lv_aload_n hx hb dX1_made_48 rfl (lv_at hl 1 rfl) ?_
          refine va_get (D := (dC, dI)) (ci := 1) (v := .ref b1) (C := RX1) (T := TX1) (N := 12) hx hb hts inX1 hown hK hP 0 rfl rfl 1 (by decide) (hts _ bw_fl_X1_7) (fun _ h9 => h9) rfl dX1_made_49 ?_
          refine lv_iload hx hb dX1_made_52 (lv_at hl 0 rfl) ?_
          refine hw_iald (j := o) hx hb hK hP 1 0 rfl rfl (rfl) (by omega) (by decide) dX1_made_54 ?_
          refine hw_topi (y := nI (hp_k (hp_rm M n) o)) (hQ1.2.2.2.1 o hI.2.1) ?_
          refine lv_if_eq hx hb dX1_made_55 (tgt := 64) (by decide) (fun hc => ?_) (fun hc => ?_)
          · have hnL : o ∉ hp_L (hp_rm M n) := (hp_kI hW1).mp hc
            have hIF := hI
            refine lv_aload_n hx hb dX1_made_64 rfl (lv_at hl 1 rfl) ?_
            refine va_get (D := (dC, dI)) (ci := 1) (v := .ref b1) (C := RX1) (T := TX1) (N := 12) hx hb hts inX1 hown hK hP 0 rfl rfl 1 (by decide) (hts _ bw_fl_X1_7) (fun _ h9 => h9) rfl dX1_made_65 ?_
            refine lv_iload hx hb dX1_made_68 (lv_at hl 0 rfl) ?_
            refine lv_iload_n hx hb dX1_made_70 rfl (lv_at hl 2 rfl) ?_
            refine hw_iast (j := o) hx hb hK hP hD hS 1 0 rfl rfl (rfl) (by omega) (by decide) dX1_made_71 (fun H locs hP hD hS => ?_)
            have hP : va_P (dC, dI) vwCl [(g0, .inr (1, [.int th, .ref b1, .ref b2, .ref b3, .ref b4, .ref b5, .ref b6, .ref b7, .ref b8, .int ob, .int co, .int tp])), (b1, .inl (e1, 301, .inl (upd kd o (nI k)))), (b2, .inl (e2, 301, .inl zs)), (b3, .inl (e3, 301, .inl od)), (b4, .inl (e4, 12040, .inl lk)), (b5, .inl (e5, 12040, .inr (.inl nu))), (b6, .inl (e6, 301, .inl rb)), (b7, .inl (e7, 16, .inl rg)), (b8, .inl (e8, 301, .inl td))] H := hP
            have hD : va_D A [(g0, .inr (1, [.int th, .ref b1, .ref b2, .ref b3, .ref b4, .ref b5, .ref b6, .ref b7, .ref b8, .int ob, .int co, .int tp])), (b1, .inl (e1, 301, .inl (upd kd o (nI k)))), (b2, .inl (e2, 301, .inl zs)), (b3, .inl (e3, 301, .inl od)), (b4, .inl (e4, 12040, .inl lk)), (b5, .inl (e5, 12040, .inr (.inl nu))), (b6, .inl (e6, 301, .inl rb)), (b7, .inl (e7, 16, .inl rg)), (b8, .inl (e8, 301, .inl td))] := hD
            refine lv_aload_n hx hb dX1_made_72 rfl (lv_at hl 1 rfl) ?_
            refine va_get (D := (dC, dI)) (ci := 1) (v := .ref b2) (C := RX1) (T := TX1) (N := 12) hx hb hts inX1 hown hK hP 0 rfl rfl 2 (by decide) (hts _ bw_fl_X1_13) (fun _ h9 => h9) rfl dX1_made_73 ?_
            refine lv_iload hx hb dX1_made_76 (lv_at hl 0 rfl) ?_
            refine lv_iload_n hx hb dX1_made_78 rfl (lv_at hl 3 rfl) ?_
            refine hw_iast (j := o) hx hb hK hP hD hS 2 1 rfl rfl (rfl) (by omega) (by decide) dX1_made_79 (fun H locs hP hD hS => ?_)
            have hP : va_P (dC, dI) vwCl [(g0, .inr (1, [.int th, .ref b1, .ref b2, .ref b3, .ref b4, .ref b5, .ref b6, .ref b7, .ref b8, .int ob, .int co, .int tp])), (b1, .inl (e1, 301, .inl (upd kd o (nI k)))), (b2, .inl (e2, 301, .inl (upd zs o (nI n)))), (b3, .inl (e3, 301, .inl od)), (b4, .inl (e4, 12040, .inl lk)), (b5, .inl (e5, 12040, .inr (.inl nu))), (b6, .inl (e6, 301, .inl rb)), (b7, .inl (e7, 16, .inl rg)), (b8, .inl (e8, 301, .inl td))] H := hP
            have hD : va_D A [(g0, .inr (1, [.int th, .ref b1, .ref b2, .ref b3, .ref b4, .ref b5, .ref b6, .ref b7, .ref b8, .int ob, .int co, .int tp])), (b1, .inl (e1, 301, .inl (upd kd o (nI k)))), (b2, .inl (e2, 301, .inl (upd zs o (nI n)))), (b3, .inl (e3, 301, .inl od)), (b4, .inl (e4, 12040, .inl lk)), (b5, .inl (e5, 12040, .inr (.inl nu))), (b6, .inl (e6, 301, .inl rb)), (b7, .inl (e7, 16, .inl rg)), (b8, .inl (e8, 301, .inl td))] := hD
            refine lv_iconst (v := 0) hx hb dX1_made_80 (by decide) ?_
            refine hw_topi (y := nI 0) (nI_0.symm) ?_
            refine lv_istore hx hb dX1_made_81 hl (by decide) rfl (fun ls hl => ?_)
            have hl : lv_has ls 6 [(5, .int (nI 0)), (4, .int (nI o)), (0, .ref g0), (1, .int (nI k)), (2, .int (nI n)), (3, .int (nI (1 + n)))] := hl
            have loopG : ∀ (n7 : Nat) (i : Nat) (lk2 : Nat → Int32) (nu2 : Nat → Int64) (H : Heap) (locs : List Loc) (ls : Array Slot), 40 - i < n7 → (i ≤ 40 ∧ (∀ q, q < i → lk2 (40 * o + q) = 0) ∧ (∀ a q, a ≠ o → q < 40 → lk2 (40 * a + q) = lk (40 * a + q)) ∧ (∀ q, q < i → nu2 (40 * o + q) = 0) ∧ (∀ a q, a ≠ o → q < 40 → nu2 (40 * a + q) = nu (40 * a + q))) → va_P (dC, dI) vwCl [(g0, .inr (1, [.int th, .ref b1, .ref b2, .ref b3, .ref b4, .ref b5, .ref b6, .ref b7, .ref b8, .int ob, .int co, .int tp])), (b1, .inl (e1, 301, .inl (upd kd o (nI k)))), (b2, .inl (e2, 301, .inl (upd zs o (nI n)))), (b3, .inl (e3, 301, .inl od)), (b4, .inl (e4, 12040, .inl lk2)), (b5, .inl (e5, 12040, .inr (.inl nu2))), (b6, .inl (e6, 301, .inl rb)), (b7, .inl (e7, 16, .inl rg)), (b8, .inl (e8, 301, .inl td))] H → va_D A [(g0, .inr (1, [.int th, .ref b1, .ref b2, .ref b3, .ref b4, .ref b5, .ref b6, .ref b7, .ref b8, .int ob, .int co, .int tp])), (b1, .inl (e1, 301, .inl (upd kd o (nI k)))), (b2, .inl (e2, 301, .inl (upd zs o (nI n)))), (b3, .inl (e3, 301, .inl od)), (b4, .inl (e4, 12040, .inl lk2)), (b5, .inl (e5, 12040, .inr (.inl nu2))), (b6, .inl (e6, 301, .inl rb)), (b7, .inl (e7, 16, .inl rg)), (b8, .inl (e8, 301, .inl td))] → va_S A s.heap H locs → lv_has ls 6 [(5, .int (nI i)), (4, .int (nI o)), (0, .ref g0), (1, .int (nI k)), (2, .int (nI n)), (3, .int (nI (1 + n)))] → W p l e (headSpec wsX1_made ({ frames := 2, cells := 0, slots := 0, locals := 50 })).room s m args below meth c H locs 0 0 Q9 (F0 m 83 ls []) := by
              intro n7
              induction n7 with
              | zero => intro i lk2 nu2 H locs ls hm; exact absurd hm (Nat.not_lt_zero _)
              | succ n7 ihG =>
                intro i lk2 nu2 H locs ls hm hI hP hD hS hl
                refine lv_iload hx hb dX1_made_83 (lv_at hl 0 rfl) ?_
                refine lv_bipush (v := 40) hx hb dX1_made_85 (by decide) ?_
                refine lv_icmp_ge hx hb dX1_made_87 (tgt := 124) (by decide) (fun hc => ?_) (fun hc => ?_)
                · have hi : i = 40 := by
                    have h1 := (nI_leI (a := 40) (by decide) (by omega)).mp hc
                    omega
                  subst hi
                  have hnew := hp_mk_Q (k := k) (n := n) hQ1 hW1 hnL hn hI.2.1 hI.2.2.1 hI.2.2.2.1 hI.2.2.2.2
                  have hL3 : (hp_L (hp_rm M n)).length < 300 := by have h7 : hp_tk (hp_rm M n) = hp_t (hp_z (hp_rm M n)) (hp_L (hp_rm M n)) := rfl; omega
                  refine lv_aload_n hx hb dX1_made_124 rfl (lv_at hl 2 rfl) ?_
                  refine va_get (D := (dC, dI)) (ci := 1) (v := .ref b3) (C := RX1) (T := TX1) (N := 12) hx hb hts inX1 hown hK hP 0 rfl rfl 3 (by decide) (hts _ bw_fl_X1_16) (fun _ h9 => h9) rfl dX1_made_125 ?_
                  refine lv_aload_n hx hb dX1_made_128 rfl (lv_at hl 2 rfl) ?_
                  refine va_get (D := (dC, dI)) (ci := 1) (v := .int ob) (C := RX1) (T := TX1) (N := 12) hx hb hts inX1 hown hK hP 0 rfl rfl 9 (by decide) (hts _ bw_fl_X1_40) (fun _ h9 => h9) rfl dX1_made_129 ?_
                  refine lv_iload hx hb dX1_made_132 (lv_at hl 1 rfl) ?_
                  refine hw_iast (j := (hp_L (hp_rm M n)).length) hx hb hK hP hD hS 3 2 rfl rfl (hQ1.1) (by omega) (by decide) dX1_made_134 (fun H locs hP hD hS => ?_)
                  have hP : va_P (dC, dI) vwCl [(g0, .inr (1, [.int th, .ref b1, .ref b2, .ref b3, .ref b4, .ref b5, .ref b6, .ref b7, .ref b8, .int ob, .int co, .int tp])), (b1, .inl (e1, 301, .inl (upd kd o (nI k)))), (b2, .inl (e2, 301, .inl (upd zs o (nI n)))), (b3, .inl (e3, 301, .inl (upd od ((hp_L (hp_rm M n)).length) (nI o)))), (b4, .inl (e4, 12040, .inl lk2)), (b5, .inl (e5, 12040, .inr (.inl nu2))), (b6, .inl (e6, 301, .inl rb)), (b7, .inl (e7, 16, .inl rg)), (b8, .inl (e8, 301, .inl td))] H := hP
                  have hD : va_D A [(g0, .inr (1, [.int th, .ref b1, .ref b2, .ref b3, .ref b4, .ref b5, .ref b6, .ref b7, .ref b8, .int ob, .int co, .int tp])), (b1, .inl (e1, 301, .inl (upd kd o (nI k)))), (b2, .inl (e2, 301, .inl (upd zs o (nI n)))), (b3, .inl (e3, 301, .inl (upd od ((hp_L (hp_rm M n)).length) (nI o)))), (b4, .inl (e4, 12040, .inl lk2)), (b5, .inl (e5, 12040, .inr (.inl nu2))), (b6, .inl (e6, 301, .inl rb)), (b7, .inl (e7, 16, .inl rg)), (b8, .inl (e8, 301, .inl td))] := hD
                  refine lv_aload_n hx hb dX1_made_135 rfl (lv_at hl 2 rfl) ?_
                  refine lv_dup hx hb dX1_made_136 rfl ?_
                  refine va_get (D := (dC, dI)) (ci := 1) (v := .int ob) (C := RX1) (T := TX1) (N := 12) hx hb hts inX1 hown hK hP 0 rfl rfl 9 (by decide) (hts _ bw_fl_X1_40) (fun _ h9 => h9) rfl dX1_made_137 ?_
                  refine lv_iconst (v := 1) hx hb dX1_made_140 (by decide) ?_
                  refine lv_iadd hx hb dX1_made_141 ?_
                  refine hw_topi (y := nI ((hp_L (hp_rm M n)).length + 1)) (by rw [hQ1.1]; exact nI_1 _) ?_
                  refine va_put (D := (dC, dI)) (ci := 1) (v := .int (nI ((hp_L (hp_rm M n)).length + 1))) (ty := .int) (C := RX1) (T := TX1) (N := 12) hx hb hts inX1 tyX1 tyX1_ok nmX1 hown hK hP hD hS 0 rfl rfl 9 (by decide) (hts _ bw_fl_X1_40) (fun _ h9 => h9) rfl (by decide +kernel) rfl rfl (Nat.le_of_ble_eq_true rfl) dX1_made_142 (fun H locs hP hD hS => ?_)
                  have hP : va_P (dC, dI) vwCl [(g0, .inr (1, [.int th, .ref b1, .ref b2, .ref b3, .ref b4, .ref b5, .ref b6, .ref b7, .ref b8, .int (nI ((hp_L (hp_rm M n)).length + 1)), .int co, .int tp])), (b1, .inl (e1, 301, .inl (upd kd o (nI k)))), (b2, .inl (e2, 301, .inl (upd zs o (nI n)))), (b3, .inl (e3, 301, .inl (upd od ((hp_L (hp_rm M n)).length) (nI o)))), (b4, .inl (e4, 12040, .inl lk2)), (b5, .inl (e5, 12040, .inr (.inl nu2))), (b6, .inl (e6, 301, .inl rb)), (b7, .inl (e7, 16, .inl rg)), (b8, .inl (e8, 301, .inl td))] H := hP
                  have hD : va_D A [(g0, .inr (1, [.int th, .ref b1, .ref b2, .ref b3, .ref b4, .ref b5, .ref b6, .ref b7, .ref b8, .int (nI ((hp_L (hp_rm M n)).length + 1)), .int co, .int tp])), (b1, .inl (e1, 301, .inl (upd kd o (nI k)))), (b2, .inl (e2, 301, .inl (upd zs o (nI n)))), (b3, .inl (e3, 301, .inl (upd od ((hp_L (hp_rm M n)).length) (nI o)))), (b4, .inl (e4, 12040, .inl lk2)), (b5, .inl (e5, 12040, .inr (.inl nu2))), (b6, .inl (e6, 301, .inl rb)), (b7, .inl (e7, 16, .inl rg)), (b8, .inl (e8, 301, .inl td))] := hD
                  refine lv_iload hx hb dX1_made_145 (lv_at hl 1 rfl) ?_
                  subst hQ9
                  exact W.iret (v := nI o) hx hb hr (fun t ht hWm => ⟨⟨nI o, (th, (upd kd o (nI k)), (upd zs o (nI n)), (upd od ((hp_L (hp_rm M n)).length) (nI o)), lk2, nu2, rb, rg, td, (nI ((hp_L (hp_rm M n)).length + 1)), co, tp), rfl, ⟨o, hIF.1, hIF.2.1, hnL, rfl, hnew⟩, by rw [ht]; exact hP, va_K.moved hWm.alike hK, hD⟩, hS.F ht⟩) hS.2.2 dX1_made_147
                · have hi : i < 40 := Nat.lt_of_not_le (fun h9 => hc ((nI_leI (a := 40) (by decide) (by omega)).mpr h9))
                  refine lv_aload_n hx hb dX1_made_90 rfl (lv_at hl 2 rfl) ?_
                  refine va_get (D := (dC, dI)) (ci := 1) (v := .ref b4) (C := RX1) (T := TX1) (N := 12) hx hb hts inX1 hown hK hP 0 rfl rfl 4 (by decide) (hts _ bw_fl_X1_19) (fun _ h9 => h9) rfl dX1_made_91 ?_
                  refine lv_bipush (v := 40) hx hb dX1_made_94 (by decide) ?_
                  refine lv_iload hx hb dX1_made_96 (lv_at hl 1 rfl) ?_
                  refine lv_imul hx hb dX1_made_98 ?_
                  refine lv_iload hx hb dX1_made_99 (lv_at hl 0 rfl) ?_
                  refine lv_iadd hx hb dX1_made_101 ?_
                  refine lv_iconst (v := 0) hx hb dX1_made_102 (by decide) ?_
                  refine hw_iast (j := 40 * o + i) hx hb hK hP hD hS 4 3 rfl rfl (hp_40i o i) (by omega) (by decide) dX1_made_103 (fun H locs hP hD hS => ?_)
                  have hP : va_P (dC, dI) vwCl [(g0, .inr (1, [.int th, .ref b1, .ref b2, .ref b3, .ref b4, .ref b5, .ref b6, .ref b7, .ref b8, .int ob, .int co, .int tp])), (b1, .inl (e1, 301, .inl (upd kd o (nI k)))), (b2, .inl (e2, 301, .inl (upd zs o (nI n)))), (b3, .inl (e3, 301, .inl od)), (b4, .inl (e4, 12040, .inl (upd lk2 (40 * o + i) 0))), (b5, .inl (e5, 12040, .inr (.inl nu2))), (b6, .inl (e6, 301, .inl rb)), (b7, .inl (e7, 16, .inl rg)), (b8, .inl (e8, 301, .inl td))] H := hP
                  have hD : va_D A [(g0, .inr (1, [.int th, .ref b1, .ref b2, .ref b3, .ref b4, .ref b5, .ref b6, .ref b7, .ref b8, .int ob, .int co, .int tp])), (b1, .inl (e1, 301, .inl (upd kd o (nI k)))), (b2, .inl (e2, 301, .inl (upd zs o (nI n)))), (b3, .inl (e3, 301, .inl od)), (b4, .inl (e4, 12040, .inl (upd lk2 (40 * o + i) 0))), (b5, .inl (e5, 12040, .inr (.inl nu2))), (b6, .inl (e6, 301, .inl rb)), (b7, .inl (e7, 16, .inl rg)), (b8, .inl (e8, 301, .inl td))] := hD
                  refine lv_aload_n hx hb dX1_made_104 rfl (lv_at hl 2 rfl) ?_
                  refine va_get (D := (dC, dI)) (ci := 1) (v := .ref b5) (C := RX1) (T := TX1) (N := 12) hx hb hts inX1 hown hK hP 0 rfl rfl 5 (by decide) (hts _ bw_fl_X1_22) (fun _ h9 => h9) rfl dX1_made_105 ?_
                  refine lv_bipush (v := 40) hx hb dX1_made_108 (by decide) ?_
                  refine lv_iload hx hb dX1_made_110 (lv_at hl 1 rfl) ?_
                  refine lv_imul hx hb dX1_made_112 ?_
                  refine lv_iload hx hb dX1_made_113 (lv_at hl 0 rfl) ?_
                  refine lv_iadd hx hb dX1_made_115 ?_
                  refine lv_lconst (v := 0) hx hb dX1_made_116 (by decide) ?_
                  refine hw_last (j := 40 * o + i) hx hb hK hP hD hS 5 4 rfl rfl (hp_40i o i) (by omega) (by decide) dX1_made_117 (fun H locs hP hD hS => ?_)
                  have hP : va_P (dC, dI) vwCl [(g0, .inr (1, [.int th, .ref b1, .ref b2, .ref b3, .ref b4, .ref b5, .ref b6, .ref b7, .ref b8, .int ob, .int co, .int tp])), (b1, .inl (e1, 301, .inl (upd kd o (nI k)))), (b2, .inl (e2, 301, .inl (upd zs o (nI n)))), (b3, .inl (e3, 301, .inl od)), (b4, .inl (e4, 12040, .inl (upd lk2 (40 * o + i) 0))), (b5, .inl (e5, 12040, .inr (.inl (vp_updL nu2 (40 * o + i) 0)))), (b6, .inl (e6, 301, .inl rb)), (b7, .inl (e7, 16, .inl rg)), (b8, .inl (e8, 301, .inl td))] H := hP
                  have hD : va_D A [(g0, .inr (1, [.int th, .ref b1, .ref b2, .ref b3, .ref b4, .ref b5, .ref b6, .ref b7, .ref b8, .int ob, .int co, .int tp])), (b1, .inl (e1, 301, .inl (upd kd o (nI k)))), (b2, .inl (e2, 301, .inl (upd zs o (nI n)))), (b3, .inl (e3, 301, .inl od)), (b4, .inl (e4, 12040, .inl (upd lk2 (40 * o + i) 0))), (b5, .inl (e5, 12040, .inr (.inl (vp_updL nu2 (40 * o + i) 0)))), (b6, .inl (e6, 301, .inl rb)), (b7, .inl (e7, 16, .inl rg)), (b8, .inl (e8, 301, .inl td))] := hD
                  refine lv_iinc (k := 0) (v := nI (i + 1)) hx hb dX1_made_118 hl rfl (nI_1 i) (by decide) rfl (fun ls hl => ?_)
                  have hl : lv_has ls 6 [(5, .int (nI (i + 1))), (4, .int (nI o)), (0, .ref g0), (1, .int (nI k)), (2, .int (nI n)), (3, .int (nI (1 + n)))] := hl
                  refine lv_goto hx hb dX1_made_121 (tgt := 83) (by decide) ?_
                  exact ihG (i + 1) (upd lk2 (40 * o + i) 0) (vp_updL nu2 (40 * o + i) 0) H locs ls (by omega) (⟨hi, fun q hq => by
                      by_cases e9 : q = i
                      · subst e9; exact pk_us
                      · rw [pk_un (by omega)]; exact hI.2.1 q (by omega), fun a q ha hq => by rw [pk_un (by omega)]; exact hI.2.2.1 a q ha hq, fun q hq => by
                      by_cases e9 : q = i
                      · subst e9; exact pk_uLs
                      · rw [pk_uLn (by omega)]; exact hI.2.2.2.1 q (by omega), fun a q ha hq => by rw [pk_uLn (by omega)]; exact hI.2.2.2.2 a q ha hq⟩) hP hD hS (lv_sub hl [0, 1, 2, 3, 4, 5] rfl)
            exact loopG _ 0 lk nu H locs ls (Nat.lt_succ_self _) (⟨Nat.zero_le _, fun q h9 => absurd h9 (Nat.not_lt_zero _), fun _ _ _ _ => rfl, fun q h9 => absurd h9 (Nat.not_lt_zero _), fun _ _ _ _ => rfl⟩) hP hD hS (lv_sub hl [0, 1, 2, 3, 4, 5] rfl)
          · have hoL : o ∈ hp_L (hp_rm M n) := Classical.byContradiction fun h9 => hc ((hp_kI hW1).mpr h9)
            have hnx := hp_find hW1 (by have h7 : hp_tk (hp_rm M n) = hp_t (hp_z (hp_rm M n)) (hp_L (hp_rm M n)) := rfl; omega) hI.2.2 hoL
            refine lv_iinc (k := 0) (v := nI (o + 1)) hx hb dX1_made_58 hl rfl (nI_1 o) (by decide) rfl (fun ls hl => ?_)
            have hl : lv_has ls 6 [(4, .int (nI (o + 1))), (0, .ref g0), (1, .int (nI k)), (2, .int (nI n)), (3, .int (nI (1 + n)))] := hl
            refine lv_goto hx hb dX1_made_61 (tgt := 48) (by decide) ?_
            exact ihF (o + 1) H locs ls (by omega) (⟨by omega, hnx, fun x h1 h2 => (Classical.em (x = o)).elim (fun h9 => h9 ▸ hoL) (fun h9 => hI.2.2 x h1 (by omega))⟩) hP hD hS (lv_sub hl [0, 1, 2, 3, 4] rfl)
      exact loopF _ 1 H locs ls (Nat.lt_succ_self _) (⟨by omega, by omega, fun x h1 h2 => by omega⟩) hP hD hS (lv_sub hl [0, 1, 2, 3, 4] rfl)
    · exact absurd ((nI_leI (b := 300) (by omega) (by decide)).mpr hfit) hc
  have tail12 : ∀ (z9 : Unit) (H : Heap) (locs : List Loc) (ls : Array Slot), (True) → va_P (dC, dI) vwCl [(g0, .inr (1, [.int th, .ref b1, .ref b2, .ref b3, .ref b4, .ref b5, .ref b6, .ref b7, .ref b8, .int ob, .int co, .int tp])), (b1, .inl (e1, 301, .inl kd)), (b2, .inl (e2, 301, .inl zs)), (b3, .inl (e3, 301, .inl od)), (b4, .inl (e4, 12040, .inl lk)), (b5, .inl (e5, 12040, .inr (.inl nu))), (b6, .inl (e6, 301, .inl rb)), (b7, .inl (e7, 16, .inl rg)), (b8, .inl (e8, 301, .inl td))] H → va_D A [(g0, .inr (1, [.int th, .ref b1, .ref b2, .ref b3, .ref b4, .ref b5, .ref b6, .ref b7, .ref b8, .int ob, .int co, .int tp])), (b1, .inl (e1, 301, .inl kd)), (b2, .inl (e2, 301, .inl zs)), (b3, .inl (e3, 301, .inl od)), (b4, .inl (e4, 12040, .inl lk)), (b5, .inl (e5, 12040, .inr (.inl nu))), (b6, .inl (e6, 301, .inl rb)), (b7, .inl (e7, 16, .inl rg)), (b8, .inl (e8, 301, .inl td))] → va_S A s.heap H locs → lv_has ls 6 [(0, .ref g0), (1, .int (nI k)), (2, .int (nI n))] → W p l e (headSpec wsX1_made ({ frames := 2, cells := 0, slots := 0, locals := 50 })).room s m args below meth c H locs 0 0 Q9 (F0 m 12 ls [.int (nI (1 + n))]) := by
    intro z9 H locs ls hI hP hD hS hl
    refine lv_istore_n hx hb dX1_made_12 rfl hl (by decide) rfl (fun ls hl => ?_)
    have hl : lv_has ls 6 [(3, .int (nI (1 + n))), (0, .ref g0), (1, .int (nI k)), (2, .int (nI n))] := hl
    refine lv_aload_n hx hb dX1_made_13 rfl (lv_at hl 1 rfl) ?_
    refine W.callR (W.runV (As := []) (rest := []) ⟨hx, hb, hml, hown, hts⟩ (c_X1_cells l dC dI g0 b1 b2 b3 b4 b5 b6 b7 b8 e1 e2 e3 e4 e5 e6 e7 e8 th kd zs od lk nu rb rg td ob co tp _ M hW hQ) (cwV 0 hts gw_X1_57 rfl rfl rfl ⟨rfl, by decide, by decide, by decide +kernel⟩ ⟨Nat.le_of_ble_eq_true rfl, Nat.le_of_ble_eq_true rfl⟩) ⟨hw_blind, va_recv (q0 := 0) (ci := 1) (q := (RX1, TX1, 12)) hK hP rfl rfl, hw_pay hP hK hD⟩ rfl rfl hl.1 rfl (lv_room (Nat.le_of_ble_eq_true rfl)) dX1_made_14 ⟨by decide, by decide⟩) ?_
    refine W.eq (g2 := F0 m 17 ls [.int (nI (hp_tk M))]) rfl ?_
    refine lv_iload_n hx hb dX1_made_17 rfl (lv_at hl 0 rfl) ?_
    refine lv_iadd hx hb dX1_made_18 ?_
    refine hw_topi (y := nI (hp_tk M + (1 + n))) (nI_add _ _) ?_
    refine lv_sipush (v := 300) hx hb dX1_made_19 (by decide) ?_
    refine lv_icmp_le hx hb dX1_made_22 (tgt := 31) (by decide) (fun hc => ?_) (fun hc => ?_)
    · have hf : hp_tk M + (1 + n) ≤ 300 := (nI_leI (b := 300) (by omega) (by decide)).mp hc
      exact tail31 th kd zs od lk nu rb rg td ob co tp H locs ls (by rw [hp_rm_t hf]; exact hQ) hP hD hS (lv_sub hl [1, 2, 3, 0] rfl)
    · have hf : ¬ hp_tk M + (1 + n) ≤ 300 := fun h9 => hc ((nI_leI (b := 300) (by omega) (by decide)).mpr h9)
      refine lv_aload_n hx hb dX1_made_25 rfl (lv_at hl 1 rfl) ?_
      refine hw_calli (va_runV (As := []) (rest := []) ⟨hx, hb, hml, hown, hts⟩ (c_X1_collect l dC dI g0 b1 b2 b3 b4 b5 b6 b7 b8 e1 e2 e3 e4 e5 e6 e7 e8 th kd zs od lk nu rb rg td ob co tp _ M hW hQ) (cwV 0 hts gw_X1_61 rfl rfl rfl ⟨rfl, by decide, by decide, by decide +kernel⟩ ⟨Nat.le_of_ble_eq_true rfl, Nat.le_of_ble_eq_true rfl⟩) ⟨hw_blind, va_recv (q0 := 0) (ci := 1) (q := (RX1, TX1, 12)) hK hP rfl rfl, hw_pay hP hK hD⟩ rfl rfl hl.1 rfl (lv_room (Nat.le_of_ble_eq_true rfl)) dX1_made_26 ⟨by decide, by decide⟩) hD hS hA (fun r9 u9 H locs hw hP hD hS => ?_)
      obtain ⟨th, kd, od, lk, rb, td, ob, co, tp⟩ := u9
      have hP : va_P (dC, dI) vwCl [(g0, .inr (1, [.int th, .ref b1, .ref b2, .ref b3, .ref b4, .ref b5, .ref b6, .ref b7, .ref b8, .int ob, .int co, .int tp])), (b1, .inl (e1, 301, .inl kd)), (b2, .inl (e2, 301, .inl zs)), (b3, .inl (e3, 301, .inl od)), (b4, .inl (e4, 12040, .inl lk)), (b5, .inl (e5, 12040, .inr (.inl nu))), (b6, .inl (e6, 301, .inl rb)), (b7, .inl (e7, 16, .inl rg)), (b8, .inl (e8, 301, .inl td))] H := hP
      have hD : va_D A [(g0, .inr (1, [.int th, .ref b1, .ref b2, .ref b3, .ref b4, .ref b5, .ref b6, .ref b7, .ref b8, .int ob, .int co, .int tp])), (b1, .inl (e1, 301, .inl kd)), (b2, .inl (e2, 301, .inl zs)), (b3, .inl (e3, 301, .inl od)), (b4, .inl (e4, 12040, .inl lk)), (b5, .inl (e5, 12040, .inr (.inl nu))), (b6, .inl (e6, 301, .inl rb)), (b7, .inl (e7, 16, .inl rg)), (b8, .inl (e8, 301, .inl td))] := hD
      refine lv_istore hx hb dX1_made_29 hl (by decide) rfl (fun ls hl => ?_)
      have hl : lv_has ls 6 [(4, .int r9), (3, .int (nI (1 + n))), (0, .ref g0), (1, .int (nI k)), (2, .int (nI n))] := hl
      exact tail31 th kd zs od lk nu rb rg td ob co tp H locs ls (by rw [hp_rm_f hf]; exact hw.2.1) hP hD hS (lv_sub hl [2, 3, 4, 1] rfl)
  refine lv_iconst (v := 1) hx hb dX1_made_0 (by decide) ?_
  refine lv_iload_n hx hb dX1_made_1 rfl (lv_at hl 1 rfl) ?_
  refine lv_iconst (v := 3) hx hb dX1_made_2 (by decide) ?_
  refine lv_icmp_ne hx hb dX1_made_3 (tgt := 10) (by decide) (fun hc => ?_) (fun hc => ?_)
  · skip
    refine lv_iload_n hx hb dX1_made_10 rfl (lv_at hl 2 rfl) ?_
    refine lv_iadd hx hb dX1_made_11 ?_
    refine hw_topi (y := nI (1 + n)) (hp_1a n) ?_
    exact tail12 () H locs ls (trivial) hP hD hS (lv_sub hl [0, 1, 2] rfl)
  · have hk3 : k = 3 := (nI_eq (b := 3) (by omega) (by decide)).mp hc
    have hn1 := hw3 hk3
    refine lv_iconst (v := 1) hx hb dX1_made_6 (by decide) ?_
    refine lv_goto hx hb dX1_made_7 (tgt := 11) (by decide) ?_
    refine hw_topi (y := nI n) (by rw [hn1]; decide) ?_
    refine lv_iadd hx hb dX1_made_11 ?_
    refine hw_topi (y := nI (1 + n)) (hp_1a n) ?_
    exact tail12 () H locs ls (trivial) hP hD hS (lv_sub hl [0, 1, 2] rfl)
end
