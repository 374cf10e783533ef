theorem hp_41 {n : Int32} : ¬ n ≤ 40 ↔ (41 : Int32) ≤ n := by
  rw [Int32.le_iff_toInt_le, Int32.le_iff_toInt_le]
  have e1 : (40 : Int32).toInt = 40 := by decide
  have e2 : (41 : Int32).toInt = 41 := by decide
  rw [e1, e2]; omega
theorem hp_le2 {n : Int32} : ¬ n ≤ 2 ↔ (3 : Int32) ≤ n := by
  rw [Int32.le_iff_toInt_le, Int32.le_iff_toInt_le]
  have e1 : (2 : Int32).toInt = 2 := by decide
  have e2 : (3 : Int32).toInt = 3 := by decide
  rw [e1, e2]; omega
theorem hp_kz {M : hp_S} (hW : hp_W M) {o : Nat} : hp_k M o = 0 ↔ o ∉ hp_L M := by
  constructor
  · intro h ho
    have := (hW.2.1 o ho).2.2.1
    omega
  · exact hW.2.2.1 o
/-- all numbers below o are taken: then there is one from o on -/
theorem hp_find {M : hp_S} (hW : hp_W M) (hlt : (hp_L M).length < 300) {o : Nat} (h : ∀ x, 1 ≤ x → x < o → x ∈ hp_L M) (ho : o ∈ hp_L M) : o + 1 ≤ 300 := by
  obtain ⟨f, f1, f2, f3⟩ := hp_free hlt
  have h1 : ¬ f < o := fun e => f3 (h f f1 e)
  have h2 : f ≠ o := fun e => f3 (e ▸ ho)
  omega
theorem hp_k_le {M : hp_S} (hW : hp_W M) (o : Nat) : hp_k M o ≤ 3 := by
  by_cases h : o ∈ hp_L M
  · exact (hW.2.1 o h).2.2.2.1
  · rw [hW.2.2.1 o h]; omega
theorem hp_kI {M : hp_S} (hW : hp_W M) {o : Nat} : nI (hp_k M o) = 0 ↔ o ∉ hp_L M := by
  have h3 := hp_k_le hW o
  rw [← hp_kz hW]
  exact ⟨fun h => (nI_eq (b := 0) (by omega) (by decide)).mp (h.trans nI_0.symm), fun h => by rw [h]; exact nI_0⟩
