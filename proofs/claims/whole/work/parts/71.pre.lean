theorem lz_str {own : String} {k : Nat} {args : Array Value} {s : State} (h : (Cond.exactly (.string own k) "java/lang/String").before args s = true) : ∃ q, (Term.string own k).eval args s none [] s = some (.ref q) := by
  obtain ⟨q, _, _, _, h1, -⟩ := Cond.exactly_spec h
  exact ⟨q, h1⟩
theorem lz_K {s : State} {args : Array Value} (hts : ∀ w ∈ wb, w.before args s = true) : ∃ (dC : Nat → ClassId) (dI : Nat → Nat → Nat), va_K (dC, dI) vwCl [] s := by
  obtain ⟨cC0, iS0, hk0⟩ := u_known hts inX0 (hts _ bw_ia_HeapPress)
  obtain ⟨cC1, iS1, hk1⟩ := u_known hts inX1 (hts _ bw_ia_HeapPressModel)
  refine ⟨fun c => match c with | 0 => cC0 | _ => cC1, fun c => match c with | 0 => iS0 | _ => iS1, ?_, ?_⟩
  · intro c q hq
    match c, hq with
    | 0, hq => cases hq; exact hk0
    | 1, hq => cases hq; exact hk1
    | c + 2, hq => exact absurd hq (by simp [vwCl])
  · intro k q hq
    exact absurd hq (by simp)
set_option maxHeartbeats 4000000 in
theorem lz_Z {s : State} {args : Array Value} (hts : ∀ w ∈ lw_tbl, w.before args s = true) (hg : (Jvm.Cond.and given_1 narrow_1).before args s = true) : hz_F (lz_A s) s s.heap := by
  have hfl := flat_of_before _ hg
  have hA : ∀ a : Nat, a < s.heap.size → ¬ lz_A s a := fun a h => Nat.not_le_of_lt h
  obtain ⟨q1, e1⟩ := lz_str (hfl (Cond.exactly (.string "HeapPress" 78) "java/lang/String") (by decide +kernel))
  obtain ⟨q2, e2⟩ := lz_str (hfl (Cond.exactly (.string "HeapPress" 83) "java/lang/String") (by decide +kernel))
  obtain ⟨q3, e3⟩ := lz_str (hfl (Cond.exactly (.string "HeapPress" 87) "java/lang/String") (by decide +kernel))
  obtain ⟨q4, e4⟩ := lz_str (hfl (Cond.exactly (.string "HeapPress" 96) "java/lang/String") (by decide +kernel))
  exact ⟨vx_Zqof (hts _ (by decide +kernel)) (hts _ (by decide +kernel)) (hfl _ (by decide +kernel)) hA, vx_Zqof (hts _ (by decide +kernel)) (hts _ (by decide +kernel)) (hfl _ (by decide +kernel)) hA,
    ⟨va_Nw.of rfl (hts _ (by decide +kernel)), va_Nw.of rfl (hts _ (by decide +kernel)), va_Nw.of rfl (hts _ (by decide +kernel))⟩,
    ⟨va_Nw.of rfl (hts _ (by decide +kernel)), va_Nw.of rfl (hts _ (by decide +kernel)), va_Nw.of rfl (hts _ (by decide +kernel))⟩,
    ⟨q1, vk_R.of (hts _ (by decide +kernel)) e1⟩, ⟨q2, vk_R.of (hts _ (by decide +kernel)) e2⟩, ⟨q3, vk_R.of (hts _ (by decide +kernel)) e3⟩, ⟨q4, vk_R.of (hts _ (by decide +kernel)) e4⟩⟩
set_option maxHeartbeats 4000000 in
theorem lz_G {s : State} {args : Array Value} (hg : (Jvm.Cond.and given_1 narrow_1).before args s = true) : hz_G s := by
  have hfl := flat_of_before _ hg
  exact ⟨va_Nc.of (hfl _ (by decide +kernel)), va_Nc.of (hfl _ (by decide +kernel)), va_Nc.of (hfl _ (by decide +kernel))⟩
