/-! the calls on a heap M, on both sides -/
theorem hp_sr_W {M : hp_S} (hW : hp_W M) {r x : Nat} (hx : x = 0 ∨ x ∈ hp_L M) : hp_W (hp_sr M r x) := by
  obtain ⟨h1, h2, h3, h4, h5, h6⟩ := hW
  refine ⟨h1, h2, h3, fun j hj => ?_, h5, h6⟩
  show va_up (hp_r M) r x j = 0 ∨ va_up (hp_r M) r x j ∈ hp_L M
  by_cases e : j = r
  · subst e; rw [va_up_self]; exact hx
  · rw [va_up_ne _ _ e]; exact h4 j hj
theorem hp_sr_C {M : hp_S} {ce : Nat → Int64} {rg : Nat → Int32} {tk ob co : Int32} (h : hp_C M ce rg tk ob co) (r x : Nat) : hp_C (hp_sr M r x) ce (upd rg r (hp_e M x)) tk ob co := by
  obtain ⟨h1, h2, h3, h4, h5⟩ := h
  refine ⟨h1, h2, h3, fun j hj => ?_, h5⟩
  show _ = hp_e M (va_up (hp_r M) r x j)
  by_cases e : j = r
  · subst e; rw [va_up_self, pk_us]
  · rw [va_up_ne _ _ e, pk_un e]; exact h4 j hj
theorem hp_sr_Q {M : hp_S} {kd sz od lk : Nat → Int32} {nu : Nat → Int64} {rg : Nat → Int32} {ob co : Int32} (h : hp_Q M kd sz od lk nu rg ob co) (r x : Nat) : hp_Q (hp_sr M r x) kd sz od lk nu (upd rg r (nI x)) ob co := by
  obtain ⟨h1, h2, h3, h4⟩ := h
  refine ⟨h1, h2, fun j hj => ?_, h4⟩
  show _ = nI (va_up (hp_r M) r x j)
  by_cases e : j = r
  · subst e; rw [va_up_self, pk_us]
  · rw [va_up_ne _ _ e, pk_un e]; exact h3 j hj
theorem hp_sl_l {M : hp_S} {o i x a j : Nat} : hp_l (hp_sl M o i x) a j = if a = o ∧ j = i then x else hp_l M a j := by
  show va_up (hp_l M) o (va_up (hp_l M o) i x) a j = _
  by_cases e : a = o
  · subst e
    rw [va_up_self]
    by_cases e2 : j = i
    · subst e2; rw [va_up_self, if_pos ⟨rfl, rfl⟩]
    · rw [va_up_ne _ _ e2, if_neg (fun z => e2 z.2)]
  · rw [va_up_ne _ _ e, if_neg (fun z => e z.1)]
theorem hp_sn_n {M : hp_S} {o i a j : Nat} {x : Int64} : hp_n (hp_sn M o i x) a j = if a = o ∧ j = i then x else hp_n M a j := by
  show va_up (hp_n M) o (va_up (hp_n M o) i x) a j = _
  by_cases e : a = o
  · subst e
    rw [va_up_self]
    by_cases e2 : j = i
    · subst e2; rw [va_up_self, if_pos ⟨rfl, rfl⟩]
    · rw [va_up_ne _ _ e2, if_neg (fun z => e2 z.2)]
  · rw [va_up_ne _ _ e, if_neg (fun z => e z.1)]
theorem hp_sl_W {M : hp_S} (hW : hp_W M) {o i x : Nat} (hx : x = 0 ∨ x ∈ hp_L M) : hp_W (hp_sl M o i x) := by
  obtain ⟨h1, h2, h3, h4, h5, h6⟩ := hW
  refine ⟨h1, h2, h3, h4, fun a ha hk j hj => ?_, h6⟩
  rw [hp_sl_l]
  by_cases e : a = o ∧ j = i
  · rw [if_pos e]; exact hx
  · rw [if_neg e]; exact h5 a ha hk j hj
theorem hp_sn_W {M : hp_S} (hW : hp_W M) {o i : Nat} {x : Int64} : hp_W (hp_sn M o i x) := hW
theorem hp_40 {a b i j : Nat} (hi : i < 40) (hj : j < 40) (e : 40 * a + i = 40 * b + j) : a = b ∧ i = j := by omega
theorem hp_sl_C {M : hp_S} {ce : Nat → Int64} {rg : Nat → Int32} {tk ob co : Int32} (h : hp_C M ce rg tk ob co) {o i x : Nat} (ho : o ∈ hp_L M) (hk : hp_k M o ≠ 2) (hi : i < hp_z M o) :
    hp_C (hp_sl M o i x) (vp_updL ce (hp_pl M o + (1 + i)) (hp_e M x).toInt64) rg tk ob co := by
  obtain ⟨h1, h2, h3, h4, h5⟩ := h
  refine ⟨h1, h2, h3, h4, fun a ha => ?_⟩
  have ha' : a ∈ hp_L M := ha
  obtain ⟨g1, g2⟩ := h5 a ha'
  refine ⟨?_, fun j hj => ?_⟩
  · show vp_updL ce (hp_pl M o + (1 + i)) (hp_e M x).toInt64 (hp_pl M a) = _
    rw [pk_uLn (fun e => by have := (hp_p_cell (z := hp_z M) (i := 0) (j := 1 + i) ha' ho (by omega) (by omega) e).2; omega)]
    exact g1
  · have hj' : j < hp_z M a := hj
    show vp_updL ce (hp_pl M o + (1 + i)) (hp_e M x).toInt64 (hp_pl M a + (1 + j)) = if hp_k M a = 2 then hp_n M a j else (hp_e M (hp_l (hp_sl M o i x) a j)).toInt64
    rw [hp_sl_l]
    by_cases e : a = o ∧ j = i
    · obtain ⟨rfl, rfl⟩ := e
      rw [pk_uLs, if_neg hk, if_pos ⟨rfl, rfl⟩]
    · rw [pk_uLn (fun e2 => e (by have := hp_p_cell (z := hp_z M) (i := 1 + j) (j := 1 + i) ha' ho (by omega) (by omega) e2; exact ⟨this.1, by omega⟩)), if_neg e]
      exact g2 j hj'
theorem hp_sn_C {M : hp_S} {ce : Nat → Int64} {rg : Nat → Int32} {tk ob co : Int32} (h : hp_C M ce rg tk ob co) {o i : Nat} {x : Int64} (ho : o ∈ hp_L M) (hk : hp_k M o = 2) (hi : i < hp_z M o) :
    hp_C (hp_sn M o i x) (vp_updL ce (hp_pl M o + (1 + i)) x) rg tk ob co := by
  obtain ⟨h1, h2, h3, h4, h5⟩ := h
  refine ⟨h1, h2, h3, h4, fun a ha => ?_⟩
  have ha' : a ∈ hp_L M := ha
  obtain ⟨g1, g2⟩ := h5 a ha'
  refine ⟨?_, fun j hj => ?_⟩
  · show vp_updL ce (hp_pl M o + (1 + i)) x (hp_pl M a) = _
    rw [pk_uLn (fun e => by have := (hp_p_cell (z := hp_z M) (i := 0) (j := 1 + i) ha' ho (by omega) (by omega) e).2; omega)]
    exact g1
  · have hj' : j < hp_z M a := hj
    show vp_updL ce (hp_pl M o + (1 + i)) x (hp_pl M a + (1 + j)) = if hp_k M a = 2 then hp_n (hp_sn M o i x) a j else (hp_e M (hp_l M a j)).toInt64
    rw [hp_sn_n]
    by_cases e : a = o ∧ j = i
    · obtain ⟨rfl, rfl⟩ := e
      rw [pk_uLs, if_pos hk, if_pos ⟨rfl, rfl⟩]
    · rw [pk_uLn (fun e2 => e (by have := hp_p_cell (z := hp_z M) (i := 1 + j) (j := 1 + i) ha' ho (by omega) (by omega) e2; exact ⟨this.1, by omega⟩)), if_neg e]
      exact g2 j hj'
theorem hp_sl_Q {M : hp_S} (hW : hp_W M) {kd sz od lk : Nat → Int32} {nu : Nat → Int64} {rg : Nat → Int32} {ob co : Int32} (h : hp_Q M kd sz od lk nu rg ob co) {o i x : Nat} (hi : i < 40) :
    hp_Q (hp_sl M o i x) kd sz od (upd lk (40 * o + i) (nI x)) nu rg ob co := by
  obtain ⟨h1, h2, h3, h4, h5, h6⟩ := h
  refine ⟨h1, h2, h3, h4, h5, fun a ha => ?_⟩
  have ha' : a ∈ hp_L M := ha
  obtain ⟨g1, g2, g3⟩ := h6 a ha'
  refine ⟨g1, fun hk j hj => ?_, g3⟩
  have hz := (hW.2.1 a ha').2.2.2.2.1
  have hj' : j < hp_z M a := hj
  rw [hp_sl_l]
  by_cases e : a = o ∧ j = i
  · obtain ⟨rfl, rfl⟩ := e
    rw [pk_us, if_pos ⟨rfl, rfl⟩]
  · rw [pk_un (fun e2 => e (hp_40 (by omega) hi e2)), if_neg e]
    exact g2 hk j hj'
theorem hp_sn_Q {M : hp_S} (hW : hp_W M) {kd sz od lk : Nat → Int32} {nu : Nat → Int64} {rg : Nat → Int32} {ob co : Int32} (h : hp_Q M kd sz od lk nu rg ob co) {o i : Nat} {x : Int64} (hi : i < 40) :
    hp_Q (hp_sn M o i x) kd sz od lk (vp_updL nu (40 * o + i) x) rg ob co := by
  obtain ⟨h1, h2, h3, h4, h5, h6⟩ := h
  refine ⟨h1, h2, h3, h4, h5, fun a ha => ?_⟩
  have ha' : a ∈ hp_L M := ha
  obtain ⟨g1, g2, g3⟩ := h6 a ha'
  refine ⟨g1, g2, fun hk j hj => ?_⟩
  have hz := (hW.2.1 a ha').2.2.2.2.1
  have hj' : j < hp_z M a := hj
  rw [hp_sn_n]
  by_cases e : a = o ∧ j = i
  · obtain ⟨rfl, rfl⟩ := e
    rw [pk_uLs, if_pos ⟨rfl, rfl⟩]
  · rw [pk_uLn (fun e2 => e (hp_40 (by omega) hi e2)), if_neg e]
    exact g3 hk j hj'
/-! a new object -/
theorem hp_mk_z {M : hp_S} {o k n a : Nat} (h : o ∉ hp_L M) (ha : a ∈ hp_L M) : hp_z (hp_mk M o k n) a = hp_z M a := va_up_ne _ _ (fun e => h (e ▸ ha))
theorem hp_mk_k {M : hp_S} {o k n a : Nat} (h : o ∉ hp_L M) (ha : a ∈ hp_L M) : hp_k (hp_mk M o k n) a = hp_k M a := va_up_ne _ _ (fun e => h (e ▸ ha))
theorem hp_mk_l {M : hp_S} {o k n a : Nat} (h : o ∉ hp_L M) (ha : a ∈ hp_L M) : hp_l (hp_mk M o k n) a = hp_l M a := va_up_ne _ _ (fun e => h (e ▸ ha))
theorem hp_mk_n {M : hp_S} {o k n a : Nat} (h : o ∉ hp_L M) (ha : a ∈ hp_L M) : hp_n (hp_mk M o k n) a = hp_n M a := va_up_ne _ _ (fun e => h (e ▸ ha))
theorem hp_mk_tk {M : hp_S} {o k n : Nat} (h : o ∉ hp_L M) : hp_tk (hp_mk M o k n) = hp_tk M + (1 + n) := by
  have e : hp_z (hp_mk M o k n) o = n := va_up_self _ _ _
  show hp_t (hp_z (hp_mk M o k n)) (hp_L M ++ [o]) = _
  rw [hp_t_snoc, e, hp_t_congr (fun a ha => hp_mk_z h ha)]
theorem hp_mk_pl {M : hp_S} {o k n a : Nat} (h : o ∉ hp_L M) (ha : a ∈ hp_L M) : hp_pl (hp_mk M o k n) a = hp_pl M a := by
  show hp_p (hp_z (hp_mk M o k n)) (hp_L M ++ [o]) a = _
  rw [hp_p_l _ ha]
  exact hp_p_congr (fun a ha => hp_mk_z h ha)
theorem hp_mk_plo {M : hp_S} {o k n : Nat} (h : o ∉ hp_L M) : hp_pl (hp_mk M o k n) o = hp_tk M := by
  show hp_p (hp_z (hp_mk M o k n)) (hp_L M ++ [o]) o = _
  rw [hp_p_at h]
  exact hp_t_congr (fun a ha => hp_mk_z h ha)
theorem hp_mk_W {M : hp_S} (hW : hp_W M) {o k n : Nat} (h : o ∉ hp_L M) (h1 : 1 ≤ o) (h2 : o ≤ 300) (hk1 : 1 ≤ k) (hk3 : k ≤ 3) (hn : n ≤ 40) (hw : k = 3 → n = 1) (hr : hp_tk M + (1 + n) ≤ 300) : hp_W (hp_mk M o k n) := by
  obtain ⟨a1, a2, a3, a4, a5, a6⟩ := hW
  have ez : hp_z (hp_mk M o k n) o = n := va_up_self _ _ _
  have ek : hp_k (hp_mk M o k n) o = k := va_up_self _ _ _
  have el : hp_l (hp_mk M o k n) o = fun _ => 0 := va_up_self _ _ _
  refine ⟨?_, fun a ha => ?_, fun a ha => ?_, fun r hr => ?_, fun a ha hk i hi => ?_, by rw [hp_mk_tk h]; exact hr⟩
  · show (hp_L M ++ [o]).Nodup
    rw [List.nodup_append]
    exact ⟨a1, by simp, fun x hx y hy => by
      rw [List.mem_singleton] at hy
      subst hy
      exact fun e => h (e ▸ hx)⟩
  · rcases List.mem_append.mp ha with e | e
    · rw [hp_mk_z h e, hp_mk_k h e]; exact a2 a e
    · rw [List.mem_singleton] at e
      subst e
      rw [ez, ek]; exact ⟨h1, h2, hk1, hk3, hn, hw⟩
  · have e1 : a ∉ hp_L M := fun e => ha (List.mem_append.mpr (Or.inl e))
    have e2 : a ≠ o := fun e => ha (List.mem_append.mpr (Or.inr (by simp [e])))
    have : hp_k (hp_mk M o k n) a = hp_k M a := va_up_ne _ _ e2
    rw [this]; exact a3 a e1
  · rcases a4 r hr with e | e
    · exact Or.inl e
    · exact Or.inr (List.mem_append.mpr (Or.inl e))
  · rcases List.mem_append.mp ha with e | e
    · rw [hp_mk_k h e] at hk
      rw [hp_mk_z h e] at hi
      rw [hp_mk_l h e]
      rcases a5 a e hk i hi with g | g
      · exact Or.inl g
      · exact Or.inr (List.mem_append.mpr (Or.inl g))
    · rw [List.mem_singleton] at e
      subst e
      rw [el]; exact Or.inl rfl
theorem hp_mk_e {M : hp_S} {o k n x : Nat} (h : o ∉ hp_L M) (hx : x = 0 ∨ x ∈ hp_L M) : hp_e (hp_mk M o k n) x = hp_e M x := by
  unfold hp_e
  by_cases h0 : x = 0
  · rw [if_pos h0, if_pos h0]
  · rw [if_neg h0, if_neg h0, hp_mk_pl h (hx.resolve_left h0)]
theorem hp_mk_eo {M : hp_S} {o k n : Nat} (h : o ∉ hp_L M) (h1 : 1 ≤ o) : hp_e (hp_mk M o k n) o = nI (hp_tk M) := by
  rw [hp_en (by omega), hp_mk_plo h]
theorem hp_mk_C {M : hp_S} (hW : hp_W M) {ce ce' : Nat → Int64} {rg : Nat → Int32} {tk ob co : Int32} (hC : hp_C M ce rg tk ob co) {o k n : Nat} (h : o ∉ hp_L M)
    (hlo : ∀ j, j < hp_tk M → ce' j = ce j) (hh : ce' (hp_tk M) = lN (4 * n + k)) (hc : ∀ i, i < n → ce' (hp_tk M + (1 + i)) = if k = 2 then 0 else -1) :
    hp_C (hp_mk M o k n) ce' rg (nI (hp_tk M + (1 + n))) (nI ((hp_L M).length + 1)) co := by
  obtain ⟨c1, c2, c3, c4, c5⟩ := hC
  have ez : hp_z (hp_mk M o k n) o = n := va_up_self _ _ _
  have ek : hp_k (hp_mk M o k n) o = k := va_up_self _ _ _
  have el : hp_l (hp_mk M o k n) o = fun _ => 0 := va_up_self _ _ _
  have en : hp_n (hp_mk M o k n) o = fun _ => 0 := va_up_self _ _ _
  refine ⟨by rw [hp_mk_tk h], ?_, c3, fun r hr => ?_, fun a ha => ?_⟩
  · show _ = nI (hp_L M ++ [o]).length
    rw [List.length_append]; rfl
  · show _ = hp_e (hp_mk M o k n) (hp_r M r)
    rw [hp_mk_e h (hW.2.2.2.1 r hr)]; exact c4 r hr
  · rcases List.mem_append.mp ha with e | e
    · obtain ⟨g1, g2⟩ := c5 a e
      have hin := hp_p_in (z := hp_z M) e
      have hin' : hp_pl M a + (1 + hp_z M a) ≤ hp_tk M := hin
      refine ⟨?_, fun i hi => ?_⟩
      · unfold hp_h
        rw [hp_mk_pl h e, hp_mk_z h e, hp_mk_k h e, hlo _ (by omega)]; exact g1
      · rw [hp_mk_z h e] at hi
        unfold hp_v
        rw [hp_mk_pl h e, hp_mk_k h e, hp_mk_l h e, hp_mk_n h e, hlo _ (by omega), g2 i hi]
        unfold hp_v
        by_cases hk : hp_k M a = 2
        · rw [if_pos hk, if_pos hk]
        · rw [if_neg hk, if_neg hk, hp_mk_e h (hW.2.2.2.2.1 a e hk i hi)]
    · rw [List.mem_singleton] at e
      subst e
      refine ⟨?_, fun i hi => ?_⟩
      · unfold hp_h
        rw [hp_mk_plo h, ez, ek]; exact hh
      · rw [ez] at hi
        unfold hp_v
        rw [hp_mk_plo h, ek, el, en, hc i hi]
        by_cases hk : k = 2
        · rw [if_pos hk, if_pos hk]
        · rw [if_neg hk, if_neg hk, hp_e0]; decide +kernel
theorem hp_mk_Q {M : hp_S} {kd sz od lk lk' : Nat → Int32} {nu nu' : Nat → Int64} {rg : Nat → Int32} {ob co : Int32} (hQ : hp_Q M kd sz od lk nu rg ob co) (hW : hp_W M) {o k n : Nat} (h : o ∉ hp_L M) (hn : n ≤ 40)
    (hl0 : ∀ i, i < 40 → lk' (40 * o + i) = 0) (hl1 : ∀ a i, a ≠ o → i < 40 → lk' (40 * a + i) = lk (40 * a + i))
    (hn0 : ∀ i, i < 40 → nu' (40 * o + i) = 0) (hn1 : ∀ a i, a ≠ o → i < 40 → nu' (40 * a + i) = nu (40 * a + i)) :
    hp_Q (hp_mk M o k n) (upd kd o (nI k)) (upd sz o (nI n)) (upd od (hp_L M).length (nI o)) lk' nu' rg (nI ((hp_L M).length + 1)) co := by
  obtain ⟨q1, q2, q3, q4, q5, q6⟩ := hQ
  have ez : hp_z (hp_mk M o k n) o = n := va_up_self _ _ _
  have ek : hp_k (hp_mk M o k n) o = k := va_up_self _ _ _
  have el : hp_l (hp_mk M o k n) o = fun _ => 0 := va_up_self _ _ _
  have en : hp_n (hp_mk M o k n) o = fun _ => 0 := va_up_self _ _ _
  refine ⟨?_, q2, q3, fun a ha => ?_, fun j a hj => ?_, fun a ha => ?_⟩
  · show _ = nI (hp_L M ++ [o]).length
    rw [List.length_append]; rfl
  · by_cases e : a = o
    · subst e; rw [pk_us, ek]
    · have : hp_k (hp_mk M o k n) a = hp_k M a := va_up_ne _ _ e
      rw [pk_un e, this]; exact q4 a ha
  · have hj' : (hp_L M ++ [o])[j]? = some a := hj
    by_cases hlt : j < (hp_L M).length
    · rw [List.getElem?_append_left hlt] at hj'
      rw [pk_un (by omega)]; exact q5 j a hj'
    · have e : j = (hp_L M).length := by
        have := (List.getElem?_eq_some_iff.mp hj').1
        simp at this
        omega
      subst e
      simp at hj'
      subst hj'
      exact pk_us
  · rcases List.mem_append.mp ha with e | e
    · have hne : a ≠ o := fun e2 => h (e2 ▸ e)
      obtain ⟨g1, g2, g3⟩ := q6 a e
      have hz := (hW.2.1 a e).2.2.2.2.1
      rw [hp_mk_z h e, hp_mk_k h e, hp_mk_l h e, hp_mk_n h e, pk_un hne]
      exact ⟨g1, fun hk i hi => by rw [hl1 a i hne (by omega)]; exact g2 hk i hi, fun hk i hi => by rw [hn1 a i hne (by omega)]; exact g3 hk i hi⟩
    · rw [List.mem_singleton] at e
      subst e
      rw [ez, ek, el, en, pk_us]
      exact ⟨rfl, fun _ i hi => hl0 i (by omega), fun _ i hi => hn0 i (by omega)⟩
