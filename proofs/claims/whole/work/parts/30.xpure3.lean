theorem hp_hd : ∀ n, n < 41 → ∀ k, k < 4 → ((nI n <<< ((2 : Int32) &&& 31)) ||| nI k).toInt64 = lN (4 * n + k) := by decide +kernel
theorem hp_ri {T n : Nat} (hT : T ≤ 300) (hn : n ≤ 40) : (if nI T + 1 + nI n ≤ 300 then (1 : Int32) else 0) = if T + (1 + n) ≤ 300 then 1 else 0 := by
  have e : nI T + 1 + nI n = nI (T + (1 + n)) := by rw [nI_1, nI_add]; congr 1; omega
  rw [e]
  have h : (nI (T + (1 + n)) ≤ 300) ↔ T + (1 + n) ≤ 300 := nI_leI (b := 300) (by omega) (by decide)
  by_cases h2 : T + (1 + n) ≤ 300
  · rw [if_pos h2, if_pos (h.mpr h2)]
  · rw [if_neg h2, if_neg (fun z => h2 (h.mp z))]
theorem hp_rt {T n : Nat} (h : T + (1 + n) ≤ 300) : (if T + (1 + n) ≤ 300 then (1 : Int32) else 0) = 1 := if_pos h
theorem hp_rf {T n : Nat} (h : ¬ T + (1 + n) ≤ 300) : (if T + (1 + n) ≤ 300 then (1 : Int32) else 0) = 0 := if_neg h
theorem hp_rm_t {M : hp_S} {n : Nat} (h : hp_tk M + (1 + n) ≤ 300) : hp_rm M n = M := if_pos h
theorem hp_rm_f {M : hp_S} {n : Nat} (h : ¬ hp_tk M + (1 + n) ≤ 300) : hp_rm M n = hp_col M := if_neg h
theorem hp_10 : ¬ (1 : Int32) = 0 := by decide
