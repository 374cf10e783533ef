/-! the reference's own collecting: S is marked, T is the stack -/
def hp_K (M : hp_S) (S T : List Nat) (rb td : Nat → Int32) (tp : Int32) : Prop :=
  tp = nI T.length ∧ (∀ j o, T[j]? = some o → td j = nI o) ∧ S.Nodup ∧ (∀ o ∈ S, o ∈ hp_L M) ∧ (∀ o ∈ T, o ∈ S) ∧ T.Nodup ∧ ∀ o, o ≤ 300 → rb o = if o ∈ S then 1 else 0
theorem hp_K_0 {M : hp_S} {rb td : Nat → Int32} (h : ∀ o, o ≤ 300 → rb o = 0) : hp_K M [] [] rb td (nI 0) :=
  ⟨rfl, fun j o h => by simp at h, List.nodup_nil, fun _ h => absurd h List.not_mem_nil, fun _ h => absurd h List.not_mem_nil, List.nodup_nil, fun o ho => by rw [h o ho]; simp⟩
theorem hp_K_len {M : hp_S} (hW : hp_W M) {S T : List Nat} {rb td : Nat → Int32} {tp : Int32} (h : hp_K M S T rb td tp) : S.length ≤ 300 ∧ T.length ≤ S.length :=
  ⟨Nat.le_trans (hp_sub_len h.2.2.1 h.2.2.2.1) (Nat.le_trans (hp_len _ _) hW.2.2.2.2.2), hp_sub_len h.2.2.2.2.2.1 h.2.2.2.2.1⟩
theorem hp_snoc_nodup {R : List Nat} {o : Nat} (h : R.Nodup) (hn : o ∉ R) : (R ++ [o]).Nodup := by
  rw [List.nodup_append]
  exact ⟨h, by simp, fun a ha b hb => by
    rw [List.mem_singleton] at hb
    subst hb
    exact fun e => hn (e ▸ ha)⟩
theorem hp_snoc_get {R : List Nat} {f : Nat → Int32} {v o : Nat} (h : ∀ j x, R[j]? = some x → f j = nI x) : ∀ j x, (R ++ [o])[j]? = some x → upd f R.length (nI o) j = nI x := by
  intro j x hx
  by_cases hj : j < R.length
  · rw [List.getElem?_append_left hj] at hx
    rw [pk_un (by omega)]
    exact h j x hx
  · have hj2 : j = R.length := by
      have := (List.getElem?_eq_some_iff.mp hx).1
      simp at this
      omega
    subst hj2
    simp at hx
    subst hx
    exact pk_us
theorem hp_K_add {M : hp_S} {S T : List Nat} {rb td : Nat → Int32} {tp : Int32} (h : hp_K M S T rb td tp) {o : Nat} (ho : o ∈ hp_L M) (hn : o ∉ S) :
    hp_K M (S ++ [o]) (T ++ [o]) (upd rb o 1) (upd td T.length (nI o)) (nI (T.length + 1)) := by
  obtain ⟨h1, h2, h3, h4, h5, h6, h7⟩ := h
  refine ⟨by simp, hp_snoc_get (v := 0) h2, hp_snoc_nodup h3 hn, fun x hx => ?_, fun x hx => ?_, hp_snoc_nodup h6 (fun e => hn (h5 o e)), fun x hx => ?_⟩
  · rcases List.mem_append.mp hx with e | e
    · exact h4 x e
    · rw [List.mem_singleton] at e; exact e ▸ ho
  · rcases List.mem_append.mp hx with e | e
    · exact List.mem_append.mpr (Or.inl (h5 x e))
    · exact List.mem_append.mpr (Or.inr e)
  · by_cases e : x = o
    · subst e
      rw [pk_us, if_pos (by simp)]
    · rw [pk_un e, h7 x hx]
      have : (x ∈ S ++ [o]) ↔ x ∈ S := by simp [e]
      by_cases hR : x ∈ S
      · rw [if_pos hR, if_pos (this.mpr hR)]
      · rw [if_neg hR, if_neg (fun h => hR (this.mp h))]
theorem hp_K_pop {M : hp_S} {S T : List Nat} {o : Nat} {rb td : Nat → Int32} {tp : Int32} (h : hp_K M S (T ++ [o]) rb td tp) : hp_K M S T rb td (nI T.length) ∧ td T.length = nI o ∧ o ∈ S ∧ o ∉ T := by
  obtain ⟨h1, h2, h3, h4, h5, h6, h7⟩ := h
  have h8 := h6
  rw [List.nodup_append] at h8
  refine ⟨⟨rfl, fun j x hx => h2 j x (by rw [List.getElem?_append_left (List.getElem?_eq_some_iff.mp hx).1]; exact hx), h3, h4, fun x hx => h5 x (List.mem_append.mpr (Or.inl hx)), h8.1, h7⟩, h2 _ _ (by simp), h5 o (by simp), fun e => h8.2.2 o e o (by simp) rfl⟩
/-- all that is marked and not on the stack has been looked into, but o: its first i references have -/
def hp_Y (M : hp_S) (S T : List Nat) (o i : Nat) : Prop :=
  (∀ x ∈ S, hp_R M x) ∧ (∀ x ∈ S, x ∉ T → hp_k M x = 1 → ∀ j, j < hp_z M x → (x = o → j < i) → hp_l M x j ≠ 0 → hp_l M x j ∈ S)
def hp_Yr (M : hp_S) (S : List Nat) (n : Nat) : Prop := ∀ r, r < n → hp_r M r ≠ 0 → hp_r M r ∈ S
theorem hp_Yr_up {M : hp_S} {S S' : List Nat} {n : Nat} (h : hp_Yr M S n) (hs : ∀ x ∈ S, x ∈ S') : hp_Yr M S' n := fun r hr hn => hs _ (h r hr hn)
theorem hp_Yr_s {M : hp_S} {S : List Nat} {n : Nat} (h : hp_Yr M S n) (hs : hp_r M n ≠ 0 → hp_r M n ∈ S) : hp_Yr M S (n + 1) := fun r hr hn => by
  by_cases e : r = n
  · subst e; exact hs hn
  · exact h r (by omega) hn
/-- a new mark goes on the stack -/
theorem hp_Y_push {M : hp_S} {S T : List Nat} {o i x : Nat} (h : hp_Y M S T o i) (hx : hp_R M x) : hp_Y M (S ++ [x]) (T ++ [x]) o i := by
  refine ⟨fun a ha => ?_, fun a ha hT hk j hj hji hn => ?_⟩
  · rcases List.mem_append.mp ha with e | e
    · exact h.1 a e
    · rw [List.mem_singleton] at e; exact e ▸ hx
  · rcases List.mem_append.mp ha with e | e
    · exact List.mem_append.mpr (Or.inl (h.2 a e (fun z => hT (List.mem_append.mpr (Or.inl z))) hk j hj hji hn))
    · exact absurd (List.mem_append.mpr (Or.inr e)) hT
theorem hp_Y_s {M : hp_S} {S T : List Nat} {o i : Nat} (h : hp_Y M S T o i) (hi : hp_l M o i ≠ 0 → hp_l M o i ∈ S) : hp_Y M S T o (i + 1) := by
  refine ⟨h.1, fun a ha hT hk j hj hji hn => ?_⟩
  by_cases e : a = o
  · subst e
    by_cases e2 : j = i
    · subst e2; exact hi hn
    · exact h.2 a ha hT hk j hj (fun _ => by have := hji rfl; omega) hn
  · exact h.2 a ha hT hk j hj (fun z => absurd z e) hn
/-- begun anew with the top of the stack -/
theorem hp_Y_pop {M : hp_S} {S T : List Nat} {o p i : Nat} (h : hp_Y M S (T ++ [o]) p i) (hp : hp_z M p ≤ i ∨ hp_k M p ≠ 1 ∨ p ∉ S) : hp_Y M S T o 0 := by
  refine ⟨h.1, fun a ha hT hk j hj hji hn => ?_⟩
  by_cases e : a = o
  · exact absurd (hji e) (Nat.not_lt_zero _)
  · refine h.2 a ha (fun z => ?_) hk j hj (fun z => ?_) hn
    · rcases List.mem_append.mp z with g | g
      · exact hT g
      · rw [List.mem_singleton] at g; exact e g
    · subst z
      rcases hp with g | g | g
      · omega
      · exact absurd hk g
      · exact absurd ha g
theorem hp_Y_end {M : hp_S} {S : List Nat} {p i : Nat} (h : hp_Y M S [] p i) (hp : hp_z M p ≤ i ∨ hp_k M p ≠ 1 ∨ p ∉ S) (hr : hp_Yr M S 16) (o : Nat) : o ∈ S ↔ hp_b M o = true := by
  rw [hp_b_iff]
  refine ⟨h.1 o, fun hR => hR (fun x => x ∈ S) hr (fun a j ha hk hj hn => ?_)⟩
  refine h.2 a ha List.not_mem_nil hk j hj (fun z => ?_) hn
  subst z
  rcases hp with g | g | g
  · omega
  · exact absurd hk g
  · exact absurd ha g
theorem hp_Y_0 (M : hp_S) : hp_Y M [] [] 0 0 := ⟨fun _ h => absurd h List.not_mem_nil, fun _ h => absurd h List.not_mem_nil⟩
/-- pre has been gone through: what isn't reached is freed, the others stand together -/
def hp_G (M : hp_S) (pre suf : List Nat) (kd od lk : Nat → Int32) : Prop :=
  (∀ o, o ≤ 300 → kd o = nI (if o ∈ pre ∧ hp_b M o = false then 0 else hp_k M o)) ∧ (∀ j o, (pre.filter (hp_b M))[j]? = some o → od j = nI o) ∧ (∀ j o, suf[j]? = some o → od (pre.length + j) = nI o) ∧
  ∀ o ∈ hp_L M, hp_k M o ≠ 2 → ∀ i, i < hp_z M o → lk (40 * o + i) = nI (if o ∈ pre ∧ hp_b M o = true then hp_l (hp_col M) o i else hp_l M o i)
theorem hp_G_0 {M : hp_S} {kd sz od lk : Nat → Int32} {nu : Nat → Int64} {rg : Nat → Int32} {ob co : Int32} (h : hp_Q M kd sz od lk nu rg ob co) : hp_G M [] (hp_L M) kd od lk := by
  obtain ⟨h1, h2, h3, h4, h5, h6⟩ := h
  refine ⟨fun o ho => by rw [h4 o ho]; simp, fun j o h => by simp at h, fun j o h => by simpa using h5 j o h, fun o ho hk i hi => by rw [(h6 o ho).2.1 hk i hi]; simp⟩
theorem hp_G_k {M : hp_S} (hW : hp_W M) {pre suf : List Nat} {o : Nat} {kd od lk : Nat → Int32} (hL : hp_L M = pre ++ o :: suf) (h : hp_G M pre (o :: suf) kd od lk) : od pre.length = nI o ∧ kd o = nI (hp_k M o) ∧ (hp_k M o ≠ 2 → ∀ i, i < hp_z M o → lk (40 * o + i) = nI (hp_l M o i)) := by
  have hn := hW.1
  rw [hL] at hn
  have n1 := (hp_not_in hn).1
  have ho : o ∈ hp_L M := by rw [hL]; simp
  obtain ⟨h1, h2, h3, h4⟩ := h
  refine ⟨by simpa using h3 0 o rfl, by rw [h1 o (hW.2.1 o ho).2.1, if_neg (fun z => n1 z.1)], fun hk i hi => by rw [h4 o ho hk i hi, if_neg (fun z => n1 z.1)]⟩
theorem hp_filter_len (b : Nat → Bool) (l : List Nat) : (l.filter b).length ≤ l.length := List.length_filter_le _ _
theorem hp_G_f {M : hp_S} (hW : hp_W M) {pre suf : List Nat} {o : Nat} {kd od lk : Nat → Int32} (hL : hp_L M = pre ++ o :: suf) (h : hp_G M pre (o :: suf) kd od lk) (hb : hp_b M o = false) : hp_G M (pre ++ [o]) suf (upd kd o 0) od lk := by
  have hb' : ¬ hp_b M o = true := by rw [hb]; simp
  obtain ⟨h1, h2, h3, h4⟩ := h
  refine ⟨fun x hx => ?_, by rw [hp_filter_f M pre hb']; exact h2, fun j x hx => ?_, fun x hx hk i hi => ?_⟩
  · by_cases e : x = o
    · subst e
      rw [pk_us, if_pos ⟨by simp, hb⟩, nI_0]
    · rw [pk_un e, h1 x hx]
      have : (x ∈ pre ++ [o]) ↔ x ∈ pre := by simp [e]
      simp only [this]
  · have := h3 (j + 1) x (by simpa using hx)
    rw [List.length_append]
    simp only [List.length_cons, List.length_nil]
    rw [show pre.length + (0 + 1) + j = pre.length + (j + 1) by omega]
    exact this
  · rw [h4 x hx hk i hi]
    by_cases e : x = o
    · subst e
      rw [if_neg (fun z => hb' z.2), if_neg (fun z => hb' z.2)]
    · have : (x ∈ pre ++ [o]) ↔ x ∈ pre := by simp [e]
      simp only [this]
theorem hp_G_t {M : hp_S} (hW : hp_W M) {pre suf : List Nat} {o : Nat} {kd od lk lk' : Nat → Int32} (hL : hp_L M = pre ++ o :: suf) (h : hp_G M pre (o :: suf) kd od lk) (hb : hp_b M o = true)
    (hl : ∀ x i, x ≠ o → i < 40 → lk' (40 * x + i) = lk (40 * x + i)) (hl2 : hp_k M o ≠ 2 → ∀ i, i < hp_z M o → lk' (40 * o + i) = nI (hp_l (hp_col M) o i)) :
    hp_G M (pre ++ [o]) suf kd (upd od (pre.filter (hp_b M)).length (nI o)) lk' := by
  obtain ⟨h1, h2, h3, h4⟩ := h
  have hle := hp_filter_len (hp_b M) pre
  refine ⟨fun x hx => ?_, by rw [hp_filter_t M pre hb]; exact hp_snoc_get (v := 0) h2, fun j x hx => ?_, fun x hx hk i hi => ?_⟩
  · rw [h1 x hx]
    by_cases e : x = o
    · subst e
      rw [if_neg (fun z => by rw [hb] at z; cases z.2), if_neg (fun z => by rw [hb] at z; cases z.2)]
    · have : (x ∈ pre ++ [o]) ↔ x ∈ pre := by simp [e]
      simp only [this]
  · have := h3 (j + 1) x (by simpa using hx)
    rw [List.length_append]
    simp only [List.length_cons, List.length_nil]
    rw [show pre.length + (0 + 1) + j = pre.length + (j + 1) by omega, pk_un (by omega)]
    exact this
  · by_cases e : x = o
    · subst e
      rw [if_pos ⟨by simp, hb⟩]
      exact hl2 hk i hi
    · have hz := (hW.2.1 x hx).2.2.2.2.1
      rw [hl x i e (by omega), h4 x hx hk i hi]
      have : (x ∈ pre ++ [o]) ↔ x ∈ pre := by simp [e]
      simp only [this]
theorem hp_Q_col {M : hp_S} (hW : hp_W M) {kd sz od lk kd' od' lk' : Nat → Int32} {nu : Nat → Int64} {rg : Nat → Int32} {ob co : Int32} (h : hp_Q M kd sz od lk nu rg ob co) (hG : hp_G M (hp_L M) [] kd' od' lk') :
    hp_Q (hp_col M) kd' sz od' lk' nu rg (nI (hp_L2 M).length) (co + 1) := by
  obtain ⟨q1, q2, q3, q4, q5, q6⟩ := h
  obtain ⟨h1, h2, h3, h4⟩ := hG
  refine ⟨rfl, by rw [q2]; rfl, q3, fun o ho => ?_, h2, fun o ho => ?_⟩
  · rw [h1 o ho]
    show _ = nI (if hp_b M o = true then hp_k M o else 0)
    congr 1
    by_cases hL : o ∈ hp_L M
    · cases hb : hp_b M o
      · rw [if_pos ⟨hL, rfl⟩]; simp
      · simp
    · rw [hW.2.2.1 o hL]; simp
  · have hbo : hp_b M o = true := (hp_in2 hW).mp ho
    have hL := hp_b_in hW hbo
    have e2 : hp_k (hp_col M) o = hp_k M o := if_pos hbo
    obtain ⟨g1, g2, g3⟩ := q6 o hL
    rw [e2]
    refine ⟨g1, fun hk i hi => ?_, g3⟩
    rw [h4 o hL hk i hi, if_pos ⟨hL, hbo⟩]
