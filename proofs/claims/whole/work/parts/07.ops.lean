/-! what each call does to a heap M: a code (0: it is done; else which refusal) and the heap behind it -/
def hp_bad (x : Int32) (n : Nat) : Prop := x < 0 ∨ nI n ≤ x
theorem hp_ok {x : Int32} {n : Nat} (h : ¬ hp_bad x n) (hn : n < 2 ^ 31) : ∃ j, j < n ∧ x = nI j := by
  rcases pk_ix x hn with e | e | e
  · exact absurd (Or.inl e) h
  · exact absurd (Or.inr e) h
  · exact e
theorem hp_ok2 {j n : Nat} (h : j < n) (hn : n < 2 ^ 31) : ¬ hp_bad (nI j) n := by
  rintro (e | e)
  · exact nI_pos (by omega) e
  · exact nI_ge h hn e
/-- the object of register x -/
def hp_at (M : hp_S) (x : Int32) : Nat := hp_r M x.toNatClampNeg
theorem hp_at_n {M : hp_S} {j : Nat} (h : j < 16) : hp_at M (nI j) = hp_r M j := by
  unfold hp_at; rw [nI_clamp (by omega)]
/-- code of a call on the object o at index i: missing, bad, or done; ok: its kind fits -/
def hp_cd (M : hp_S) (o : Nat) (i : Int32) (ok : Prop) (k : Nat) : Prop :=
  (o = 0 ∧ k = 2) ∨ (o ≠ 0 ∧ (¬ ok ∨ hp_bad i (hp_z M o)) ∧ k = 1) ∨ (o ≠ 0 ∧ ok ∧ ¬ hp_bad i (hp_z M o) ∧ k = 0)
theorem hp_cd_u {M : hp_S} {o : Nat} {i : Int32} {ok : Prop} {k k' : Nat} (h : hp_cd M o i ok k) (h' : hp_cd M o i ok k') : k = k' := by
  rcases h with ⟨a, b⟩ | ⟨a, b, c⟩ | ⟨a, b, c, d⟩ <;> rcases h' with ⟨a', b'⟩ | ⟨a', b', c'⟩ | ⟨a', b', c', d'⟩
  · omega
  · exact absurd a a'
  · exact absurd a a'
  · exact absurd a' a
  · omega
  · rcases b with b | b
    · exact absurd b' b
    · exact absurd b c'
  · exact absurd a' a
  · rcases b' with b' | b'
    · exact absurd b b'
    · exact absurd b' c
  · omega
/-- room for n more contents, collecting where there isn't -/
noncomputable def hp_rm (M : hp_S) (n : Nat) : hp_S := if hp_tk M + (1 + n) ≤ 300 then M else hp_col M
theorem hp_rm_W {M : hp_S} (hW : hp_W M) (n : Nat) : hp_W (hp_rm M n) := by
  unfold hp_rm
  split
  · exact hW
  · exact hp_col_W hW
