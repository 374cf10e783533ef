theorem hp_cd_0 {M : hp_S} {o : Nat} {i : Int32} {ok : Prop} {k : Nat} (h : o = 0) (hc : hp_cd M o i ok k) : k = 2 := by
  rcases hc with ⟨a, b⟩ | ⟨a, b, c⟩ | ⟨a, b, c, d⟩
  · exact b
  · exact absurd h a
  · exact absurd h a
theorem hp_cd_1 {M : hp_S} {o : Nat} {i : Int32} {ok : Prop} {k : Nat} (h : o ≠ 0) (hb : ¬ ok ∨ hp_bad i (hp_z M o)) (hc : hp_cd M o i ok k) : k = 1 := by
  rcases hc with ⟨a, b⟩ | ⟨a, b, c⟩ | ⟨a, b, c, d⟩
  · exact absurd a h
  · exact c
  · rcases hb with hb | hb
    · exact absurd b hb
    · exact absurd hb c
theorem hp_cd_ok {M : hp_S} {o : Nat} {i : Int32} {ok : Prop} {k : Nat} (h : o ≠ 0) (ho : ok) (hb : ¬ hp_bad i (hp_z M o)) (hc : hp_cd M o i ok k) : k = 0 := by
  rcases hc with ⟨a, b⟩ | ⟨a, b, c⟩ | ⟨a, b, c, d⟩
  · exact absurd a h
  · rcases b with b | b
    · exact absurd ho b
    · exact absurd b hb
  · exact d
