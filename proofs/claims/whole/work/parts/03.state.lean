/-! what a heap is: the objects' numbers in the order of their places; kind, size, references, longs by number; the registers; how often collected -/
abbrev hp_S : Type := List Nat × (Nat → Nat) × (Nat → Nat) × (Nat → Nat → Nat) × (Nat → Nat → Int64) × (Nat → Nat) × Int32
abbrev hp_L (M : hp_S) : List Nat := M.1
abbrev hp_k (M : hp_S) : Nat → Nat := M.2.1
abbrev hp_z (M : hp_S) : Nat → Nat := M.2.2.1
abbrev hp_l (M : hp_S) : Nat → Nat → Nat := M.2.2.2.1
abbrev hp_n (M : hp_S) : Nat → Nat → Int64 := M.2.2.2.2.1
abbrev hp_r (M : hp_S) : Nat → Nat := M.2.2.2.2.2.1
abbrev hp_c (M : hp_S) : Int32 := M.2.2.2.2.2.2
/-- the place of object o -/
abbrev hp_pl (M : hp_S) (o : Nat) : Nat := hp_p (hp_z M) (hp_L M) o
/-- the cells taken -/
abbrev hp_tk (M : hp_S) : Nat := hp_t (hp_z M) (hp_L M)
def hp_W (M : hp_S) : Prop :=
  (hp_L M).Nodup ∧ (∀ o ∈ hp_L M, 1 ≤ o ∧ o ≤ 300 ∧ 1 ≤ hp_k M o ∧ hp_k M o ≤ 3 ∧ hp_z M o ≤ 40 ∧ (hp_k M o = 3 → hp_z M o = 1)) ∧ (∀ o, o ∉ hp_L M → hp_k M o = 0) ∧
  (∀ r, r < 16 → hp_r M r = 0 ∨ hp_r M r ∈ hp_L M) ∧ (∀ o ∈ hp_L M, hp_k M o ≠ 2 → ∀ i, i < hp_z M o → hp_l M o i = 0 ∨ hp_l M o i ∈ hp_L M) ∧ hp_tk M ≤ 300
/-- reached: by a register, or by a LINKS that is reached -/
def hp_R (M : hp_S) (o : Nat) : Prop := ∀ P : Nat → Prop, (∀ r, r < 16 → hp_r M r ≠ 0 → P (hp_r M r)) → (∀ a i, P a → hp_k M a = 1 → i < hp_z M a → hp_l M a i ≠ 0 → P (hp_l M a i)) → P o
theorem hp_R.reg {M : hp_S} {r : Nat} (h : r < 16) (hn : hp_r M r ≠ 0) : hp_R M (hp_r M r) := fun _ h1 _ => h1 r h hn
theorem hp_R.step {M : hp_S} {a i : Nat} (h : hp_R M a) (hk : hp_k M a = 1) (hi : i < hp_z M a) (hn : hp_l M a i ≠ 0) : hp_R M (hp_l M a i) := fun P h1 h2 => h2 a i (h P h1 h2) hk hi hn
theorem hp_R.in {M : hp_S} (hW : hp_W M) {o : Nat} (h : hp_R M o) : o ∈ hp_L M := by
  refine h (fun o => o ∈ hp_L M) (fun r hr hn => ?_) (fun a i ha hk hi hn => ?_)
  · rcases hW.2.2.2.1 r hr with e | e
    · exact absurd e hn
    · exact e
  · rcases hW.2.2.2.2.1 a ha (by omega) i hi with e | e
    · exact absurd e hn
    · exact e
noncomputable def hp_b (M : hp_S) (o : Nat) : Bool := @decide (hp_R M o) (Classical.propDecidable _)
theorem hp_b_iff {M : hp_S} {o : Nat} : hp_b M o = true ↔ hp_R M o := by
  unfold hp_b; exact @decide_eq_true_iff _ (Classical.propDecidable _)
theorem hp_b_0 {M : hp_S} (hW : hp_W M) : hp_b M 0 = false := by
  cases h : hp_b M 0
  · rfl
  · have := (hW.2.1 0 (hp_R.in hW (hp_b_iff.mp h))).1; omega
theorem hp_b_in {M : hp_S} (hW : hp_W M) {o : Nat} (h : hp_b M o = true) : o ∈ hp_L M := hp_R.in hW (hp_b_iff.mp h)
/-- what is left -/
noncomputable abbrev hp_L2 (M : hp_S) : List Nat := (hp_L M).filter (hp_b M)
noncomputable def hp_col (M : hp_S) : hp_S :=
  (hp_L2 M, fun o => if hp_b M o = true then hp_k M o else 0, hp_z M, fun o i => if hp_k M o = 3 ∧ hp_b M (hp_l M o i) = false then 0 else hp_l M o i, hp_n M, hp_r M, hp_c M + 1)
theorem hp_in2 {M : hp_S} (hW : hp_W M) {o : Nat} : o ∈ hp_L2 M ↔ hp_b M o = true := by
  unfold hp_L2
  rw [List.mem_filter]
  exact ⟨fun h => h.2, fun h => ⟨hp_b_in hW h, h⟩⟩
theorem hp_col_W {M : hp_S} (hW : hp_W M) : hp_W (hp_col M) := by
  have hin : ∀ o, o ∈ hp_L (hp_col M) ↔ hp_b M o = true := fun o => hp_in2 hW
  refine ⟨List.Pairwise.filter _ hW.1, fun o ho => ?_, fun o ho => ?_, fun r hr => ?_, fun o ho hk i hi => ?_, Nat.le_trans (hp_t_filter _ _ _) hW.2.2.2.2.2⟩
  · have hb := (hin o).mp ho
    obtain ⟨h1, h2, h3, h4, h5, h6⟩ := hW.2.1 o (hp_b_in hW hb)
    have e : hp_k (hp_col M) o = hp_k M o := if_pos hb
    rw [e]
    exact ⟨h1, h2, h3, h4, h5, h6⟩
  · have hb : ¬ hp_b M o = true := fun h => ho ((hin o).mpr h)
    exact if_neg hb
  · by_cases h0 : hp_r M r = 0
    · exact Or.inl h0
    · exact Or.inr ((hin _).mpr (hp_b_iff.mpr (hp_R.reg hr h0)))
  · have hb := (hin o).mp ho
    have e : hp_k (hp_col M) o = hp_k M o := if_pos hb
    rw [e] at hk
    have hi' : i < hp_z M o := hi
    have e2 : hp_l (hp_col M) o i = if hp_k M o = 3 ∧ hp_b M (hp_l M o i) = false then 0 else hp_l M o i := rfl
    rw [e2]
    by_cases h3 : hp_k M o = 3 ∧ hp_b M (hp_l M o i) = false
    · rw [if_pos h3]; exact Or.inl rfl
    · rw [if_neg h3]
      by_cases h0 : hp_l M o i = 0
      · exact Or.inl h0
      · refine Or.inr ((hin _).mpr ?_)
        by_cases hk3 : hp_k M o = 3
        · cases hc : hp_b M (hp_l M o i)
          · exact absurd ⟨hk3, hc⟩ h3
          · rfl
        · obtain ⟨-, -, g3, g4, -, -⟩ := hW.2.1 o (hp_b_in hW hb)
          exact hp_b_iff.mpr (hp_R.step (hp_b_iff.mp hb) (by omega) hi' h0)
/-- a reference, as the program holds it: the place; null -1 -/
def hp_e (M : hp_S) (o : Nat) : Int32 := if o = 0 then -1 else nI (hp_pl M o)
/-- a content of object o, as the program holds it -/
def hp_v (M : hp_S) (o i : Nat) : Int64 := if hp_k M o = 2 then hp_n M o i else (hp_e M (hp_l M o i)).toInt64
def hp_h (M : hp_S) (o : Nat) : Int64 := lN (4 * hp_z M o + hp_k M o)
/-- the program's cells and registers hold the heap M -/
def hp_C (M : hp_S) (ce : Nat → Int64) (rg : Nat → Int32) (tk ob co : Int32) : Prop :=
  tk = nI (hp_tk M) ∧ ob = nI (hp_L M).length ∧ co = hp_c M ∧ (∀ r, r < 16 → rg r = hp_e M (hp_r M r)) ∧ ∀ o ∈ hp_L M, ce (hp_pl M o) = hp_h M o ∧ ∀ i, i < hp_z M o → ce (hp_pl M o + (1 + i)) = hp_v M o i
/-- the reference's rows hold the heap M -/
def hp_Q (M : hp_S) (kd sz od lk : Nat → Int32) (nu : Nat → Int64) (rg : Nat → Int32) (ob co : Int32) : Prop :=
  ob = nI (hp_L M).length ∧ co = hp_c M ∧ (∀ r, r < 16 → rg r = nI (hp_r M r)) ∧ (∀ o, o ≤ 300 → kd o = nI (hp_k M o)) ∧ (∀ j o, (hp_L M)[j]? = some o → od j = nI o) ∧
  ∀ o ∈ hp_L M, sz o = nI (hp_z M o) ∧ (hp_k M o ≠ 2 → ∀ i, i < hp_z M o → lk (40 * o + i) = nI (hp_l M o i)) ∧ (hp_k M o = 2 → ∀ i, i < hp_z M o → nu (40 * o + i) = hp_n M o i)
/-- a new object o of kind k with n contents, behind the last -/
def hp_mk (M : hp_S) (o k n : Nat) : hp_S := (hp_L M ++ [o], va_up (hp_k M) o k, va_up (hp_z M) o n, va_up (hp_l M) o (fun _ => 0), va_up (hp_n M) o (fun _ => 0), hp_r M, hp_c M)
def hp_sr (M : hp_S) (r o : Nat) : hp_S := (hp_L M, hp_k M, hp_z M, hp_l M, hp_n M, va_up (hp_r M) r o, hp_c M)
def hp_sl (M : hp_S) (o i x : Nat) : hp_S := (hp_L M, hp_k M, hp_z M, va_up (hp_l M) o (va_up (hp_l M o) i x), hp_n M, hp_r M, hp_c M)
def hp_sn (M : hp_S) (o i : Nat) (x : Int64) : hp_S := (hp_L M, hp_k M, hp_z M, hp_l M, va_up (hp_n M) o (va_up (hp_n M o) i x), hp_r M, hp_c M)
