/-- codes of a call with registers: 1 where one is bad, else as hp_cd says -/
def hp_lk (M : hp_S) (bad : Prop) (o : Nat) (i : Int32) (ok : Prop) (k : Nat) : Prop := (bad ∧ k = 1) ∨ (¬ bad ∧ hp_cd M o i ok k)
theorem hp_lk_u {M : hp_S} {bad : Prop} {o : Nat} {i : Int32} {ok : Prop} {k k' : Nat} (h : hp_lk M bad o i ok k) (h' : hp_lk M bad o i ok k') : k = k' := by
  rcases h with ⟨a, b⟩ | ⟨a, b⟩ <;> rcases h' with ⟨a', b'⟩ | ⟨a', b'⟩
  · omega
  · exact absurd a a'
  · exact absurd a' a
  · exact hp_cd_u b b'
/-- which exception a code is, where missing is 2 -/
def hp_E2 (E : String) (k : Nat) : Prop := (E = hz_A ∧ k = 1) ∨ (E = hz_N ∧ k = 2)
theorem hp_ok' {x : Int32} (h : ¬ hp_bad x 16) : ∃ j, j < 16 ∧ x = nI j := hp_ok h (by decide)
theorem hp_null {M : hp_S} (hW : hp_W M) {o : Nat} (ho : o = 0 ∨ o ∈ hp_L M) : hp_e M o = -1 ↔ o = 0 := by
  constructor
  · intro h
    refine Classical.byContradiction fun h0 => ?_
    rw [hp_en h0] at h
    exact hp_neg1 (by have := hp_pl_lt hW (ho.resolve_left h0); omega) h
  · intro h; rw [h]; exact hp_e0 M
