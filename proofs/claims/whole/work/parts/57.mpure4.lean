theorem hp_mkin (M : hp_S) (o k n : Nat) : o ∈ hp_L (hp_mk M o k n) := List.mem_append.mpr (Or.inr (by simp))
theorem hp_mks_W {M : hp_S} (hW : hp_W M) {o k n j : Nat} (h : o ∉ hp_L M) (h1 : 1 ≤ o) (h2 : o ≤ 300) (hk1 : 1 ≤ k) (hk3 : k ≤ 3) (hn : n ≤ 40) (hw : k = 3 → n = 1) (hr : hp_tk M + (1 + n) ≤ 300) : hp_W (hp_sr (hp_mk M o k n) j o) :=
  hp_sr_W (hp_mk_W hW h h1 h2 hk1 hk3 hn hw hr) (Or.inr (hp_mkin M o k n))
theorem hp_wks_W {M : hp_S} (hW : hp_W M) {o j x : Nat} (h : o ∉ hp_L M) (h1 : 1 ≤ o) (h2 : o ≤ 300) (hr : hp_tk M + (1 + 1) ≤ 300) (hx : x = 0 ∨ x ∈ hp_L M) : hp_W (hp_sr (hp_sl (hp_mk M o 3 1) o 0 x) j o) :=
  hp_sr_W (hp_sl_W (hp_mk_W hW h h1 h2 (by decide) (by decide) (by decide) (fun _ => rfl) hr) (hx.elim Or.inl (fun e => Or.inr (List.mem_append.mpr (Or.inl e))))) (Or.inr (hp_mkin M o 3 1))
theorem hp_0_Q {kd zs od lk : Nat → Int32} {nu : Nat → Int64} {rg : Nat → Int32} (h1 : ∀ o, kd o = 0) (h2 : ∀ r, rg r = 0) : hp_Q hp_0 kd zs od lk nu rg 0 0 :=
  ⟨nI_0.symm, rfl, fun r _ => by rw [h2 r]; exact nI_0.symm, fun o _ => by rw [h1 o]; exact nI_0.symm, fun j o h => by
    have h9 : ([] : List Nat)[j]? = some o := h
    simp at h9, fun o ho => absurd ho List.not_mem_nil⟩
theorem hp_onz {o : Nat} (h1 : 1 ≤ o) (h2 : o ≤ 300) : ¬ nI o = 0 := nI_ne0 h1 (by omega)
theorem hp_w3 {x : Int32} (h : ¬ hp_bad x 3) : ∃ w, w < 3 ∧ x = nI w := hp_ok h (by decide)
theorem hp_n41 {x : Int32} (h : ¬ hp_bad x 41) : ∃ n, n ≤ 40 ∧ x = nI n := by
  obtain ⟨n, h1, h2⟩ := hp_ok h (by decide)
  exact ⟨n, by omega, h2⟩
