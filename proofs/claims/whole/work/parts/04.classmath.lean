/-! the program's own steps, as functions and lists -/
theorem hp_e0 (M : hp_S) : hp_e M 0 = -1 := if_pos rfl
theorem hp_en {M : hp_S} {o : Nat} (h : o ≠ 0) : hp_e M o = nI (hp_pl M o) := if_neg h
theorem hp_neg1 {n : Nat} (h : n < 2 ^ 31) : ¬ nI n = -1 := fun e => nI_pos h (by rw [e]; decide)
theorem hp_pl_lt {M : hp_S} (hW : hp_W M) {o : Nat} (h : o ∈ hp_L M) : hp_pl M o + (1 + hp_z M o) ≤ 300 := Nat.le_trans (hp_p_in h) hW.2.2.2.2.2
theorem hp_in_pos {M : hp_S} (hW : hp_W M) {o : Nat} (h : o ∈ hp_L M) : o ≠ 0 := by have := (hW.2.1 o h).1; omega
theorem hp_h_i (M : hp_S) (o : Nat) : (hp_h M o).toInt32 = nI (4 * hp_z M o + hp_k M o) := lN_i _
theorem hp_h_kind {M : hp_S} (hW : hp_W M) {o : Nat} (h : o ∈ hp_L M) : (hp_h M o).toInt32 &&& 3 = nI (hp_k M o) := by
  obtain ⟨-, -, -, h4, h5, -⟩ := hW.2.1 o h
  rw [hp_h_i, pk_andN (by omega) 2 (by decide +kernel)]
  congr 1
  omega
theorem hp_h_len {M : hp_S} (hW : hp_W M) {o : Nat} (h : o ∈ hp_L M) : (hp_h M o).toInt32 >>> ((2 : Int32) &&& 31) = nI (hp_z M o) := by
  obtain ⟨-, -, -, h4, h5, -⟩ := hW.2.1 o h
  rw [hp_h_i, pk_shrN (by omega) _ 2 (by decide +kernel)]
  congr 1
  omega
/-- what is noted as reached: R, by number; the row of places; the marks -/
def hp_I (M : hp_S) (R : List Nat) (re : Nat → Int32) (rc : Int32) (np : Nat → Int32) : Prop :=
  rc = nI R.length ∧ R.Nodup ∧ (∀ o ∈ R, o ∈ hp_L M) ∧ (∀ j o, R[j]? = some o → re j = nI (hp_pl M o)) ∧ ∀ o ∈ hp_L M, np (hp_pl M o) = if o ∈ R then nI (hp_pl M o) else -1
theorem hp_I_len {M : hp_S} (hW : hp_W M) {R : List Nat} {re : Nat → Int32} {rc : Int32} {np : Nat → Int32} (h : hp_I M R re rc np) : R.length ≤ 300 :=
  Nat.le_trans (hp_sub_len h.2.1 h.2.2.1) (Nat.le_trans (hp_len _ _) hW.2.2.2.2.2)
theorem hp_I_lt {M : hp_S} (hW : hp_W M) {R : List Nat} {re : Nat → Int32} {rc : Int32} {np : Nat → Int32} (h : hp_I M R re rc np) {o : Nat} (ho : o ∈ hp_L M) (hn : o ∉ R) : R.length < 300 :=
  Nat.lt_of_lt_of_le (hp_sub_lt h.2.1 h.2.2.1 ho hn) (Nat.le_trans (hp_len _ _) hW.2.2.2.2.2)
theorem hp_I_0 {M : hp_S} {re np : Nat → Int32} (h : ∀ j, j < 300 → np j = -1) (hW : hp_W M) : hp_I M [] re (nI 0) np :=
  ⟨rfl, List.nodup_nil, fun _ h => absurd h List.not_mem_nil, fun j o h => by simp at h, fun o ho => by
    rw [h _ (by have := hp_pl_lt hW ho; omega)]; simp⟩
theorem hp_I_add {M : hp_S} {R : List Nat} {re : Nat → Int32} {rc : Int32} {np : Nat → Int32} (h : hp_I M R re rc np) {o : Nat} (ho : o ∈ hp_L M) (hn : o ∉ R) :
    hp_I M (R ++ [o]) (upd re R.length (nI (hp_pl M o))) (nI (R.length + 1)) (upd np (hp_pl M o) (nI (hp_pl M o))) := by
  obtain ⟨h1, h2, h3, h4, h5⟩ := h
  refine ⟨by simp, ?_, fun x hx => ?_, fun j x hx => ?_, fun x hx => ?_⟩
  · rw [List.nodup_append]
    exact ⟨h2, by simp, fun a ha b hb => by
      rw [List.mem_singleton] at hb
      subst hb
      exact fun e => hn (e ▸ ha)⟩
  · rcases List.mem_append.mp hx with e | e
    · exact h3 x e
    · rw [List.mem_singleton] at e; exact e ▸ ho
  · by_cases hj : j < R.length
    · rw [List.getElem?_append_left hj] at hx
      rw [pk_un (by omega)]
      exact h4 j x hx
    · have hj2 : j = R.length := by
        have := (List.getElem?_eq_some_iff.mp hx).1
        simp at this
        omega
      subst hj2
      simp at hx
      subst hx
      exact pk_us
  · by_cases e : x = o
    · subst e
      rw [pk_us, if_pos (by simp)]
    · rw [pk_un (fun e2 => e (hp_p_inj hx ho e2)), h5 x hx]
      have : (x ∈ R ++ [o]) ↔ x ∈ R := by simp [e]
      by_cases hR : x ∈ R
      · rw [if_pos hR, if_pos (this.mpr hR)]
      · rw [if_neg hR, if_neg (fun h => hR (this.mp h))]
def hp_nt (R : List Nat) (o : Nat) : List Nat := if o = 0 ∨ o ∈ R then R else R ++ [o]
def hp_nf (f : Nat → Nat) : Nat → List Nat → List Nat
  | 0, R => R
  | n + 1, R => hp_nt (hp_nf f n R) (f n)
theorem hp_nt_pre (R : List Nat) (o : Nat) : ∃ t, hp_nt R o = R ++ t := by
  unfold hp_nt
  split
  · exact ⟨[], by simp⟩
  · exact ⟨[o], rfl⟩
theorem hp_nt_in (R : List Nat) (o x : Nat) : x ∈ hp_nt R o ↔ x ∈ R ∨ (x = o ∧ o ≠ 0) := by
  unfold hp_nt
  split
  · rename_i h
    constructor
    · exact Or.inl
    · rintro (h1 | ⟨rfl, h2⟩)
      · exact h1
      · rcases h with h | h
        · exact absurd h h2
        · exact h
  · rename_i h
    have h0 : o ≠ 0 := fun e => h (Or.inl e)
    simp [h0]
theorem hp_nf_pre (f : Nat → Nat) (R : List Nat) : ∀ n, ∃ t, hp_nf f n R = R ++ t
  | 0 => ⟨[], by simp [hp_nf]⟩
  | n + 1 => by
    obtain ⟨t, ht⟩ := hp_nf_pre f R n
    obtain ⟨u, hu⟩ := hp_nt_pre (hp_nf f n R) (f n)
    exact ⟨t ++ u, by rw [hp_nf, hu, ht, List.append_assoc]⟩
theorem hp_nf_in (f : Nat → Nat) (R : List Nat) (x : Nat) : ∀ n, x ∈ hp_nf f n R ↔ x ∈ R ∨ ∃ i, i < n ∧ x = f i ∧ f i ≠ 0
  | 0 => by simp [hp_nf]
  | n + 1 => by
    rw [hp_nf, hp_nt_in, hp_nf_in f R x n]
    constructor
    · rintro ((h | ⟨i, h1, h2⟩) | h)
      · exact Or.inl h
      · exact Or.inr ⟨i, by omega, h2⟩
      · exact Or.inr ⟨n, by omega, h⟩
    · rintro (h | ⟨i, h1, h2⟩)
      · exact Or.inl (Or.inl h)
      · by_cases e : i = n
        · subst e; exact Or.inr h2
        · exact Or.inl (Or.inr ⟨i, by omega, h2⟩)
/-- the first k of R have been looked into -/
def hp_J (M : hp_S) (R : List Nat) (k : Nat) : Prop :=
  (∀ o ∈ R, hp_R M o) ∧ (∀ r, r < 16 → hp_r M r ≠ 0 → hp_r M r ∈ R) ∧ ∀ j o, j < k → R[j]? = some o → hp_k M o = 1 → ∀ i, i < hp_z M o → hp_l M o i ≠ 0 → hp_l M o i ∈ R
theorem hp_J_0 (M : hp_S) : hp_J M (hp_nf (hp_r M) 16 []) 0 := by
  refine ⟨fun o ho => ?_, fun r hr hn => ?_, fun j o hj => absurd hj (Nat.not_lt_zero _)⟩
  · rcases (hp_nf_in _ _ _ _).mp ho with h | ⟨i, h1, h2, h3⟩
    · exact absurd h List.not_mem_nil
    · rw [h2]; exact hp_R.reg h1 h3
  · exact (hp_nf_in _ _ _ _).mpr (Or.inr ⟨r, hr, rfl, hn⟩)
theorem hp_J_links {M : hp_S} {R : List Nat} {k o : Nat} (h : hp_J M R k) (hk : R[k]? = some o) (h1 : hp_k M o = 1) : hp_J M (hp_nf (hp_l M o) (hp_z M o) R) (k + 1) := by
  obtain ⟨a1, a2, a3⟩ := h
  have hR : hp_R M o := a1 o (List.mem_of_getElem? hk)
  have hlt : k < R.length := (List.getElem?_eq_some_iff.mp hk).1
  obtain ⟨t, ht⟩ := hp_nf_pre (hp_l M o) R (hp_z M o)
  have hold : ∀ x, x ∈ R → x ∈ hp_nf (hp_l M o) (hp_z M o) R := fun x hx => (hp_nf_in _ _ _ _).mpr (Or.inl hx)
  refine ⟨fun x hx => ?_, fun r hr hn => hold _ (a2 r hr hn), fun j x hj hx hx1 i hi hn => ?_⟩
  · rcases (hp_nf_in _ _ _ _).mp hx with g | ⟨i, g1, g2, g3⟩
    · exact a1 x g
    · rw [g2]; exact hp_R.step hR h1 g1 g3
  · rw [ht, List.getElem?_append_left (by omega)] at hx
    by_cases e : j = k
    · subst e
      rw [hk] at hx
      cases hx
      exact (hp_nf_in _ _ _ _).mpr (Or.inr ⟨i, hi, rfl, hn⟩)
    · exact hold _ (a3 j x (by omega) hx hx1 i hi hn)
theorem hp_J_other {M : hp_S} {R : List Nat} {k o : Nat} (h : hp_J M R k) (hk : R[k]? = some o) (h1 : hp_k M o ≠ 1) : hp_J M R (k + 1) := by
  obtain ⟨a1, a2, a3⟩ := h
  refine ⟨a1, a2, fun j x hj hx hx1 => ?_⟩
  by_cases e : j = k
  · subst e
    rw [hk] at hx
    cases hx
    exact absurd hx1 h1
  · exact a3 j x (by omega) hx hx1
theorem hp_J_end {M : hp_S} {R : List Nat} {k : Nat} (h : hp_J M R k) (hk : R.length ≤ k) (o : Nat) : o ∈ R ↔ hp_b M o = true := by
  rw [hp_b_iff]
  obtain ⟨a1, a2, a3⟩ := h
  refine ⟨a1 o, fun hR => hR (fun x => x ∈ R) a2 (fun a i ha hk1 hi hn => ?_)⟩
  obtain ⟨j, hj⟩ := List.getElem?_of_mem ha
  exact a3 j a (Nat.lt_of_lt_of_le (List.getElem?_eq_some_iff.mp hj).1 hk) hj hk1 i hi hn
/-- the new places, known for the objects of pre -/
def hp_N (M : hp_S) (pre suf : List Nat) (np : Nat → Int32) : Prop :=
  (∀ o ∈ pre, np (hp_pl M o) = if hp_b M o = true then nI (hp_p (hp_z M) (hp_L2 M) o) else -1) ∧ ∀ o ∈ suf, np (hp_pl M o) = if hp_b M o = true then nI (hp_pl M o) else -1
theorem hp_N_0 {M : hp_S} {R : List Nat} {re : Nat → Int32} {rc : Int32} {np : Nat → Int32} (h : hp_I M R re rc np) (hb : ∀ o, o ∈ R ↔ hp_b M o = true) : hp_N M [] (hp_L M) np :=
  ⟨fun _ h => absurd h List.not_mem_nil, fun o ho => by
    rw [h.2.2.2.2 o ho]
    by_cases e : o ∈ R
    · rw [if_pos e, if_pos ((hb o).mp e)]
    · rw [if_neg e, if_neg (fun x => e ((hb o).mpr x))]⟩
theorem hp_new_at {M : hp_S} (hW : hp_W M) {pre suf : List Nat} {o : Nat} (hL : hp_L M = pre ++ o :: suf) (hb : hp_b M o = true) : hp_p (hp_z M) (hp_L2 M) o = hp_t (hp_z M) (pre.filter (hp_b M)) := by
  have hn := hW.1
  rw [hL] at hn
  have h1 := (hp_not_in hn).1
  unfold hp_L2
  rw [hL, List.filter_append, List.filter_cons_of_pos hb]
  exact hp_p_at (fun h => h1 (List.mem_filter.mp h).1)
theorem hp_old_at {M : hp_S} (hW : hp_W M) {pre suf : List Nat} {o : Nat} (hL : hp_L M = pre ++ o :: suf) : hp_pl M o = hp_t (hp_z M) pre := by
  have hn := hW.1
  rw [hL] at hn
  unfold hp_pl
  rw [hL]
  exact hp_p_at (hp_not_in hn).1
theorem hp_t_snoc (z : Nat → Nat) (pre : List Nat) (o : Nat) : hp_t z (pre ++ [o]) = hp_t z pre + (1 + z o) := by
  rw [hp_t_app]; simp [hp_t]
theorem hp_filter_t (M : hp_S) (pre : List Nat) {o : Nat} (h : hp_b M o = true) : (pre ++ [o]).filter (hp_b M) = pre.filter (hp_b M) ++ [o] := by
  rw [List.filter_append, List.filter_cons_of_pos h]; rfl
theorem hp_filter_f (M : hp_S) (pre : List Nat) {o : Nat} (h : ¬ hp_b M o = true) : (pre ++ [o]).filter (hp_b M) = pre.filter (hp_b M) := by
  rw [List.filter_append, List.filter_cons_of_neg h]; simp
theorem hp_N_t {M : hp_S} (hW : hp_W M) {pre suf : List Nat} {o : Nat} {np : Nat → Int32} (hL : hp_L M = pre ++ o :: suf) (h : hp_N M pre (o :: suf) np) (hb : hp_b M o = true) :
    hp_N M (pre ++ [o]) suf (upd np (hp_pl M o) (nI (hp_t (hp_z M) (pre.filter (hp_b M))))) := by
  have hn := hW.1
  rw [hL] at hn
  obtain ⟨n1, n2⟩ := hp_not_in hn
  have hin : ∀ x, x ∈ pre ∨ x ∈ o :: suf → x ∈ hp_L M := fun x hx => by rw [hL]; exact List.mem_append.mpr hx
  have ho : o ∈ hp_L M := hin o (Or.inr List.mem_cons_self)
  refine ⟨fun x hx => ?_, fun x hx => ?_⟩
  · rcases List.mem_append.mp hx with e | e
    · rw [pk_un (fun e2 => n1 (hp_p_inj (hin x (Or.inl e)) ho e2 ▸ e))]
      exact h.1 x e
    · rw [List.mem_singleton] at e
      subst e
      rw [pk_us, if_pos hb, hp_new_at hW hL hb]
  · rw [pk_un (fun e2 => n2 (hp_p_inj (hin x (Or.inr (List.mem_cons_of_mem _ hx))) ho e2 ▸ hx))]
    exact h.2 x (List.mem_cons_of_mem _ hx)
theorem hp_N_f {M : hp_S} {pre suf : List Nat} {o : Nat} {np : Nat → Int32} (h : hp_N M pre (o :: suf) np) (hb : ¬ hp_b M o = true) : hp_N M (pre ++ [o]) suf np := by
  refine ⟨fun x hx => ?_, fun x hx => h.2 x (List.mem_cons_of_mem _ hx)⟩
  rcases List.mem_append.mp hx with e | e
  · exact h.1 x e
  · rw [List.mem_singleton] at e
    subst e
    rw [if_neg hb, h.2 x List.mem_cons_self, if_neg hb]
/-- the new place of what a reference refers to -/
def hp_nw (np : Nat → Int32) (x : Int32) : Int32 := if x = -1 then -1 else np x.toNatClampNeg
theorem hp_nw_e {M : hp_S} (hW : hp_W M) {np : Nat → Int32} (h : hp_N M (hp_L M) [] np) {o : Nat} (ho : o = 0 ∨ o ∈ hp_L M) : hp_nw np (hp_e M o) = hp_e (hp_col M) (if hp_b M o = true then o else 0) := by
  rcases ho with rfl | ho
  · rw [hp_e0, hp_b_0 hW]; simp [hp_nw, hp_e]
  · have h1 := hp_pl_lt hW ho
    rw [hp_en (hp_in_pos hW ho)]
    unfold hp_nw
    rw [if_neg (hp_neg1 (by omega)), nI_clamp (by omega), h.1 o ho]
    by_cases hb : hp_b M o = true
    · rw [if_pos hb, if_pos hb, hp_en (hp_in_pos hW ho)]; rfl
    · rw [if_neg hb, if_neg hb, hp_e0]
theorem hp_nw_reg {M : hp_S} (hW : hp_W M) {np : Nat → Int32} (h : hp_N M (hp_L M) [] np) {r : Nat} (hr : r < 16) : hp_nw np (hp_e M (hp_r M r)) = hp_e (hp_col M) (hp_r (hp_col M) r) := by
  rw [hp_nw_e hW h (hW.2.2.2.1 r hr)]
  by_cases h0 : hp_r M r = 0
  · show hp_e (hp_col M) _ = hp_e (hp_col M) (hp_r M r)
    rw [h0, hp_b_0 hW]; simp
  · rw [if_pos (hp_b_iff.mpr (hp_R.reg hr h0))]
    rfl
/-- the contents of the objects of P are redirected, of the others not yet -/
def hp_X (M : hp_S) (P : List Nat) (ce : Nat → Int64) : Prop :=
  ∀ o ∈ hp_L M, ce (hp_pl M o) = hp_h M o ∧ ∀ i, i < hp_z M o → ce (hp_pl M o + (1 + i)) = if o ∈ P then hp_v (hp_col M) o i else hp_v M o i
def hp_rd (np : Nat → Int32) (ce : Nat → Int64) (a c : Nat) : Nat → Int64 := fun j => if a ≤ j ∧ j < c then (hp_nw np (ce j).toInt32).toInt64 else ce j
theorem hp_rd_0 (np : Nat → Int32) (ce : Nat → Int64) (a : Nat) : hp_rd np ce a a = ce := by
  funext j
  unfold hp_rd
  rw [if_neg (by omega)]
theorem hp_rd_s (np : Nat → Int32) (ce : Nat → Int64) {a c : Nat} (h : a ≤ c) : vp_updL (hp_rd np ce a c) c (hp_nw np (hp_rd np ce a c c).toInt32).toInt64 = hp_rd np ce a (c + 1) := by
  funext j
  by_cases e : j = c
  · subst e
    rw [pk_uLs]
    unfold hp_rd
    rw [if_neg (by omega), if_pos (by omega)]
  · rw [pk_uLn e]
    unfold hp_rd
    by_cases h2 : a ≤ j ∧ j < c
    · rw [if_pos h2, if_pos (by omega)]
    · rw [if_neg h2, if_neg (by omega)]
theorem hp_32 (x : Int32) : x.toInt64.toInt32 = x := by simp
theorem hp_v_col {M : hp_S} (hW : hp_W M) {np : Nat → Int32} (h : hp_N M (hp_L M) [] np) {o i : Nat} (ho : hp_b M o = true) (hk : hp_k M o ≠ 2) (hi : i < hp_z M o) : (hp_nw np (hp_v M o i).toInt32).toInt64 = hp_v (hp_col M) o i := by
  have hL := hp_b_in hW ho
  have e1 : hp_v M o i = (hp_e M (hp_l M o i)).toInt64 := if_neg hk
  have e2 : hp_k (hp_col M) o = hp_k M o := if_pos ho
  have e3 : hp_v (hp_col M) o i = (hp_e (hp_col M) (hp_l (hp_col M) o i)).toInt64 := if_neg (by rw [e2]; exact hk)
  rw [e1, e3, hp_32, hp_nw_e hW h (hW.2.2.2.2.1 o hL hk i hi)]
  congr 2
  show _ = if hp_k M o = 3 ∧ hp_b M (hp_l M o i) = false then 0 else hp_l M o i
  by_cases h3 : hp_k M o = 3
  · cases hb : hp_b M (hp_l M o i)
    · simp [h3]
    · simp [hb]
  · rw [show (if hp_k M o = 3 ∧ hp_b M (hp_l M o i) = false then 0 else hp_l M o i) = hp_l M o i from if_neg (fun z => h3 z.1)]
    by_cases h0 : hp_l M o i = 0
    · rw [h0]; simp
    · obtain ⟨-, -, g3, g4, -, -⟩ := hW.2.1 o hL
      rw [if_pos (hp_b_iff.mpr (hp_R.step (hp_b_iff.mp ho) (by omega) hi h0))]
theorem hp_X_num {M : hp_S} {P : List Nat} {ce : Nat → Int64} {o : Nat} (h : hp_X M P ce) (hb : hp_b M o = true) (hk : hp_k M o = 2) : hp_X M (P ++ [o]) ce := by
  intro x hx
  obtain ⟨h1, h2⟩ := h x hx
  refine ⟨h1, fun i hi => ?_⟩
  rw [h2 i hi]
  by_cases e : x = o
  · subst e
    have e2 : hp_k (hp_col M) x = hp_k M x := if_pos hb
    have e3 : hp_v (hp_col M) x i = hp_n M x i := if_pos (by rw [e2]; exact hk)
    have e4 : hp_v M x i = hp_n M x i := if_pos hk
    rw [e3, e4]
    split <;> split <;> rfl
  · have : (x ∈ P ++ [o]) ↔ x ∈ P := by simp [e]
    by_cases hP : x ∈ P
    · rw [if_pos hP, if_pos (this.mpr hP)]
    · rw [if_neg hP, if_neg (fun h => hP (this.mp h))]
theorem hp_X_ref {M : hp_S} (hW : hp_W M) {P : List Nat} {ce : Nat → Int64} {np : Nat → Int32} {o : Nat} (h : hp_X M P ce) (hN : hp_N M (hp_L M) [] np) (hb : hp_b M o = true) (hk : hp_k M o ≠ 2) (hP : o ∉ P) :
    hp_X M (P ++ [o]) (hp_rd np ce (hp_pl M o + 1) (hp_pl M o + 1 + hp_z M o)) := by
  have ho := hp_b_in hW hb
  intro x hx
  obtain ⟨h1, h2⟩ := h x hx
  have hout : ∀ i, i < 1 + hp_z M x → ¬ (x = o ∧ 1 ≤ i) → hp_rd np ce (hp_pl M o + 1) (hp_pl M o + 1 + hp_z M o) (hp_pl M x + i) = ce (hp_pl M x + i) := fun i hi hne => by
    unfold hp_rd
    refine if_neg (fun hr => ?_)
    obtain ⟨g1, g2⟩ := hp_p_cell (z := hp_z M) (i := i) (j := hp_pl M x + i - hp_pl M o) hx ho hi (by omega) (by show hp_pl M x + i = hp_pl M o + _; omega)
    subst g1
    exact hne ⟨rfl, by omega⟩
  refine ⟨by rw [← h1]; exact hout 0 (by omega) (by omega), fun i hi => ?_⟩
  by_cases e : x = o
  · subst e
    rw [if_pos (by simp)]
    unfold hp_rd
    rw [if_pos (by omega), h2 i hi, if_neg hP]
    exact hp_v_col hW hN hb hk hi
  · rw [hout (1 + i) (by omega) (fun z => e z.1), h2 i hi]
    have : (x ∈ P ++ [o]) ↔ x ∈ P := by simp [e]
    by_cases hP2 : x ∈ P
    · rw [if_pos hP2, if_pos (this.mpr hP2)]
    · rw [if_neg hP2, if_neg (fun h => hP2 (this.mp h))]
/-- the objects of pre that stay have moved, those of suf stand where they stood -/
def hp_V (M : hp_S) (pre suf : List Nat) (ce : Nat → Int64) : Prop :=
  (∀ o ∈ pre, hp_b M o = true → ce (hp_pl (hp_col M) o) = hp_h M o ∧ ∀ i, i < hp_z M o → ce (hp_pl (hp_col M) o + (1 + i)) = hp_v (hp_col M) o i) ∧
  ∀ o ∈ suf, ce (hp_pl M o) = hp_h M o ∧ (hp_b M o = true → ∀ i, i < hp_z M o → ce (hp_pl M o + (1 + i)) = hp_v (hp_col M) o i)
theorem hp_V_0 {M : hp_S} {R : List Nat} {ce : Nat → Int64} (h : hp_X M R ce) (hb : ∀ o, o ∈ R ↔ hp_b M o = true) : hp_V M [] (hp_L M) ce :=
  ⟨fun _ h => absurd h List.not_mem_nil, fun o ho => ⟨(h o ho).1, fun g i hi => by rw [(h o ho).2 i hi, if_pos ((hb o).mpr g)]⟩⟩
theorem hp_V_f {M : hp_S} {pre suf : List Nat} {o : Nat} {ce : Nat → Int64} (h : hp_V M pre (o :: suf) ce) (hb : ¬ hp_b M o = true) : hp_V M (pre ++ [o]) suf ce := by
  refine ⟨fun x hx hx2 => ?_, fun x hx => h.2 x (List.mem_cons_of_mem _ hx)⟩
  rcases List.mem_append.mp hx with e | e
  · exact h.1 x e hx2
  · rw [List.mem_singleton] at e
    exact absurd (e ▸ hx2) hb
theorem hp_V_t {M : hp_S} (hW : hp_W M) {pre suf : List Nat} {o : Nat} {ce : Nat → Int64} (hL : hp_L M = pre ++ o :: suf) (h : hp_V M pre (o :: suf) ce) (hb : hp_b M o = true) :
    hp_V M (pre ++ [o]) suf (va_cpy ce ce (hp_pl M o) (hp_pl (hp_col M) o) (1 + hp_z M o)) := by
  have hn := hW.1
  rw [hL] at hn
  obtain ⟨n1, n2⟩ := hp_not_in hn
  have ho : o ∈ hp_L M := by rw [hL]; simp
  have hpo := hp_old_at hW hL
  have hno : hp_pl (hp_col M) o = hp_t (hp_z M) (pre.filter (hp_b M)) := hp_new_at hW hL hb
  have hle := hp_t_filter (hp_z M) (hp_b M) pre
  refine ⟨fun x hx hx2 => ?_, fun x hx => ?_⟩
  · rcases List.mem_append.mp hx with e | e
    · have hxf : x ∈ pre.filter (hp_b M) := List.mem_filter.mpr ⟨e, hx2⟩
      have hxp : hp_pl (hp_col M) x = hp_p (hp_z M) (pre.filter (hp_b M)) x := by
        show hp_p (hp_z M) ((hp_L M).filter (hp_b M)) x = _
        rw [hL, List.filter_append]
        exact hp_p_l _ hxf
      have hxi := hp_p_in (z := hp_z M) hxf
      obtain ⟨g1, g2⟩ := h.1 x e hx2
      refine ⟨by rw [pk_cpy_out (by omega)]; exact g1, fun i hi => by rw [pk_cpy_out (by omega)]; exact g2 i hi⟩
    · rw [List.mem_singleton] at e
      subst e
      obtain ⟨g1, g2⟩ := h.2 x List.mem_cons_self
      refine ⟨?_, fun i hi => ?_⟩
      · rw [pk_cpy_in (by omega) (by omega), ← g1]
        congr 1
        omega
      · rw [pk_cpy_in (by omega) (by omega), ← g2 hb i hi]
        congr 1
        omega
  · have hx2 : x ∈ hp_L M := by rw [hL]; simp [hx]
    have hxp : hp_pl M x = hp_t (hp_z M) pre + ((1 + hp_z M o) + hp_p (hp_z M) suf x) := by
      have hx3 : x ∉ pre := fun e => by
        rw [List.nodup_append] at hn
        exact hn.2.2 x e x (List.mem_cons_of_mem _ hx) rfl
      have hx4 : o ≠ x := fun e => n2 (e ▸ hx)
      unfold hp_pl
      rw [hL, hp_p_r _ hx3]
      simp only [hp_p, if_neg hx4]
    obtain ⟨g1, g2⟩ := h.2 x (List.mem_cons_of_mem _ hx)
    refine ⟨by rw [pk_cpy_out (by omega)]; exact g1, fun g i hi => by rw [pk_cpy_out (by omega)]; exact g2 g i hi⟩
/-- behind it all -/
theorem hp_C_col {M : hp_S} (hW : hp_W M) {R : List Nat} {ce : Nat → Int64} {rg : Nat → Int32} (hR : R.Nodup) (hb : ∀ o, o ∈ R ↔ hp_b M o = true) (hV : hp_V M (hp_L M) [] ce) (hr : ∀ r, r < 16 → rg r = hp_e (hp_col M) (hp_r (hp_col M) r)) :
    hp_C (hp_col M) ce rg (nI (hp_t (hp_z M) (hp_L2 M))) (nI R.length) (hp_c M + 1) := by
  have hlen : R.length = (hp_L2 M).length := by
    have h2 : (hp_L2 M).Nodup := List.Pairwise.filter _ hW.1
    have a := hp_sub_len hR (fun o ho => (hp_in2 hW).mpr ((hb o).mp ho))
    have b := hp_sub_len h2 (fun o ho => (hb o).mpr ((hp_in2 hW).mp ho))
    omega
  refine ⟨rfl, by rw [hlen]; rfl, rfl, hr, fun o ho => ?_⟩
  have hbo : hp_b M o = true := (hp_in2 hW).mp ho
  obtain ⟨g1, g2⟩ := hV.1 o (hp_b_in hW hbo) hbo
  have e2 : hp_k (hp_col M) o = hp_k M o := if_pos hbo
  refine ⟨g1.trans ?_, g2⟩
  unfold hp_h
  rw [e2]
  rfl
