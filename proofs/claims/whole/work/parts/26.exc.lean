/-! what a throw needs of the machine, and calls that throw -/
abbrev hz_A : String := "java/lang/IllegalArgumentException"
abbrev hz_I : String := "java/lang/IllegalStateException"
abbrev hz_N : String := "java/util/NoSuchElementException"
abbrev hz_up : List String := ["java/lang/RuntimeException", "java/lang/Exception"]
def hz_F (A : Nat → Prop) (U : State) (H : Heap) : Prop :=
  vx_Zq Bundle.tN "UNASSIGNED_STACK" Bundle.steD A U H ∧ vx_Zq Bundle.tN "SUPPRESSED_SENTINEL" Bundle.listD A U H ∧
  (va_Nw (.castable hz_A hz_A) U ∧ va_Nw (.castable hz_I hz_I) U ∧ va_Nw (.castable hz_N hz_N) U) ∧
  (va_Nw (.declares ⟨"java/lang/RuntimeException", "<init>", "(Ljava/lang/String;)V"⟩) U ∧ va_Nw (.declares ⟨"java/lang/Exception", "<init>", "(Ljava/lang/String;)V"⟩) U ∧ va_Nw (.declares ⟨"java/lang/Throwable", "<init>", "(Ljava/lang/String;)V"⟩) U) ∧
  (∃ q, vk_R RX0 78 "a number out of range" q U) ∧ (∃ q, vk_R RX0 83 "an object of another kind" q U) ∧ (∃ q, vk_R RX0 87 "null, where there must be an object" q U) ∧ ∃ q, vk_R RX0 96 "full" q U
theorem hz_F.warm {A : Nat → Prop} {s U : State} {H : Heap} (hW : s.WarmedH U.vm) (h : hz_F A s H) : hz_F A U H := by
  obtain ⟨h1, h2, ⟨k1, k2, k3⟩, ⟨d1, d2, d3⟩, ⟨q1, r1⟩, ⟨q2, r2⟩, ⟨q3, r3⟩, ⟨q4, r4⟩⟩ := h
  exact ⟨h1.moved hW.alike, h2.moved hW.alike, ⟨va_Nw.warmC hW k1, va_Nw.warmC hW k2, va_Nw.warmC hW k3⟩, ⟨va_Nw.warmD hW d1, va_Nw.warmD hW d2, va_Nw.warmD hW d3⟩, ⟨q1, r1.warm hW⟩, ⟨q2, r2.warm hW⟩, ⟨q3, r3.warm hW⟩, ⟨q4, r4.warm hW⟩⟩
theorem hz_F.kept {A : Nat → Prop} {U : State} {H H1 : Heap} (h : hz_F A U H) (hq : ∀ a : Nat, a < H.size → ¬ A a → H1[a]? = H[a]?) : hz_F A U H1 := ⟨h.1.kept hq, h.2.1.kept hq, h.2.2⟩
theorem hz_F.narrow {A B : Nat → Prop} {U : State} {H : Heap} (h : hz_F A U H) (hAB : ∀ q, B q → A q) : hz_F B U H := ⟨h.1.narrow hAB, h.2.1.narrow hAB, h.2.2⟩
def hx_pre (D : va_G) (cl : List vw_C) (tys : List (ClassId × FieldType)) (ws : va_W) (sz : Nat) (U : State) : Prop := U.heap.size = sz ∧ va_P D cl ws U.heap ∧ va_K D cl tys U ∧ va_D (fun _ => True) ws ∧ hz_F (va_A ws sz) U U.heap
theorem hx_blind {D : va_G} {cl : List vw_C} {tys : List (ClassId × FieldType)} {ws : va_W} {sz : Nat} {av : List Value} : FrameBlind (va_Pc av (hx_pre D cl tys ws sz)) := fun a U g mk q => by
  obtain ⟨q0, q1, qP, qK, qD, qZ⟩ := q
  exact ⟨q0, q1, qP, va_K.moved (u := U) (U := U.calling g mk a) (Vm.Alike.refl U.vm) qK, qD, hz_F.warm (s := U) (U := U.calling g mk a) (State.WarmedH.refl U) qZ⟩
theorem hx_pay {D : va_G} {cl : List vw_C} {tys : List (ClassId × FieldType)} {ws : va_W} {av : List Value} {A : Nat → Prop} {s : State} {H : Heap} {locs : List Loc} (hP : va_P D cl ws H) (hK : va_K D cl tys s) (hD : va_D A ws) (hS : va_S A s.heap H locs) (hA : ∀ q, s.heap.size ≤ q → A q) (hZ : hz_F A s s.heap) : ∀ U : State, U.heap = H → s.WarmedH U.vm → va_Pc av (hx_pre D cl tys ws H.size) av.toArray U :=
  fun U hU hW => ⟨rfl, by rw [hU], by rw [hU]; exact hP, va_K.moved hW.alike hK, hD.weaken (fun _ _ _ _ => trivial), by rw [hU]; exact ((hZ.kept hS.2.1).narrow (hw_sub hD hS hA)).warm hW⟩
theorem hx_P0 {D : va_G} {cl : List vw_C} {H : Heap} : va_P D cl [] H := fun k q h => by simp at h
theorem hx_D0 {A : Nat → Prop} : va_D A [] := ⟨fun i j p q h => by simp at h, fun k q h => by simp at h⟩
theorem hx_A0 {sz q : Nat} (h : va_A [] sz q) : sz ≤ q := by
  rcases h with ⟨k, e, h⟩ | h
  · simp at h
  · exact h
section HXT
variable {p : Program} {l : Launch} {e : Env} {R : Room} {s : State} {m : MethodId} {args : Array Value} {below : List Frame} {meth : Method} {c : Code} {H : Heap} {locs : List Loc} {cells slots : Nat} {Q : State → Prop}
variable {pc : Nat} {ls : Array Slot} {st0 rest : List Value} {D : va_G} {cl : List vw_C} {A : Nat → Prop} {a : Array Value} {tys : List (ClassId × FieldType)} {ws : va_W} {H0 : Heap} {mc ms : Nat}
/-- a call without a world that throws -/
theorem hx_throws {bad : String → Prop} (hr : vx_Run p l e R s m args below meth c H locs cells slots mc ms (F0 m pc ls st0) rest (fun _ _ _ => False) (vx_X (fun _ : Unit => True) (fun E _ _ => bad E) (va_A [] H.size)) (va_A [] H.size)) (hP : va_P D cl ws H) (hS : va_S A H0 H locs) (hA : ∀ q, H0.size ≤ q → A q)
    (kx : ∀ (E : String) (ce : Cell) (q9 : Addr) (H1 : Heap) (locs1 : List Loc), bad E → va_P D cl ws H1 → va_S A H0 H1 locs1 → H1[q9]? = some ce → ce.vm = .none → s.vm.findClass E = some ce.cls → vx_W p l e R s m args below meth c H1 locs1 (cells + mc) (slots + ms) Q (F0 m pc ls rest) q9) : W p l e R s m args below meth c H locs cells slots Q (F0 m pc ls st0) := by
  intro T hT X
  rcases hr T hT X with ⟨v, st₀, t, T', L, h0, X', hL, e1, e2, hF, st⟩ | ⟨q, st₀, t, T', L, E, ce, h0, X', hL, e1, e2, ⟨u, hp, hb, hF⟩, hce, hcv, hcl, st⟩
  · exact hF.elim
  · obtain ⟨k1, k2, k3⟩ := vx_keep h0 e1 hS (fun q h1 h2 => absurd (hx_A0 h2) (Nat.not_le_of_lt h1)) (fun q h => hA q (Nat.le_trans hS.1 (hx_A0 h))) hL hF
    obtain ⟨t2, a1, b1⟩ := kx E ce q T'.heap (locs ++ L) hb (hP.kept (fun k q hq => k2 q.1 (hP k q hq).lt (fun z => Nat.not_le_of_lt (hP k q hq).lt (hx_A0 z)))) k3 (by rw [e1]; exact hce) hcv hcl T' rfl X'
    exact ⟨t2, st.trans a1, b1⟩
/-- a call on the same world that throws -/
theorem hx_throwsW {SX : Type} {px : String → SX → Prop} {wx : SX → va_W} (hr : vx_Run p l e R s m args below meth c H locs cells slots mc ms (F0 m pc ls st0) rest (fun _ _ _ => False) (vx_X (fun _ : SX => True) (fun E u t => px E u ∧ hw_B D cl tys (va_A ws H.size) (wx u) t) (va_A ws H.size)) (va_A ws H.size)) (hD : va_D A ws) (hS : va_S A H0 H locs) (hA : ∀ q, H0.size ≤ q → A q)
    (kx : ∀ (E : String) (ce : Cell) (q9 : Addr) (u : SX) (H1 : Heap) (locs1 : List Loc), px E u → va_P D cl (wx u) H1 → va_D A (wx u) → va_S A H0 H1 locs1 → H1[q9]? = some ce → ce.vm = .none → s.vm.findClass E = some ce.cls → vx_W p l e R s m args below meth c H1 locs1 (cells + mc) (slots + ms) Q (F0 m pc ls rest) q9) : W p l e R s m args below meth c H locs cells slots Q (F0 m pc ls st0) := by
  have hF9 := hw_sub hD hS hA
  intro T hT X
  rcases hr T hT X with ⟨v, st₀, t, T', L, h0, X', hL, e1, e2, hF, st⟩ | ⟨q, st₀, t, T', L, E, ce, h0, X', hL, e1, e2, ⟨u, hp, hb, hF⟩, hce, hcv, hcl, st⟩
  · exact hF.elim
  · obtain ⟨k1, k2, k3⟩ := vx_keep h0 e1 hS (fun q _ h => hF9 q h) hF9 hL hF
    obtain ⟨t2, a1, b1⟩ := kx E ce q u T'.heap (locs ++ L) hb.1 (by rw [e1]; exact hb.2.1) (hb.2.2.2.weaken (fun _ _ _ h => hF9 _ h)) k3 (by rw [e1]; exact hce) hcv hcl T' rfl X'
    exact ⟨t2, st.trans a1, b1⟩
/-- a void call that reads alone -/
def hw_Qn : Array Value → State → Outcome → State → Prop := fun _ st o t => o = .returned none ∧ t.heap = st.heap
theorem hw_callN (hr : CallRun p l e R s m args below meth c H locs cells slots 0 0 (F0 m pc ls st0) rest (hw_Qn a) (fun _ => False)) (kk : W p l e R s m args below meth c H locs cells slots Q (F0 m (pc + 3) ls rest)) : W p l e R s m args below meth c H locs cells slots Q (F0 m pc ls st0) := by
  intro T hT X
  obtain ⟨v, st₀, t, T', L, h0, X', hL, e1, ⟨hv, hh⟩, st⟩ := hr T hT X
  cases hv
  obtain ⟨t2, a1, b1⟩ := kk T' (by rw [e1, hh, h0]) (Stand.forget X' (fun q h => (hL q h).elim))
  exact ⟨t2, st t2 a1, b1⟩
end HXT
theorem hz_in80 : ∀ w ∈ (vx_atS RX0 80 hz_A hz_up).filter goodWord, w ∈ lw_tbl := by decide +kernel
theorem hz_in98 : ∀ w ∈ (vx_atS RX0 98 hz_I hz_up).filter goodWord, w ∈ lw_tbl := by decide +kernel
theorem hz_at80 {args : Array Value} {s : State} {A : Nat → Prop} {H : Heap} (hts : ∀ w ∈ wb, w.before args s = true) (hZ : hz_F A s H) : ∀ w ∈ vx_atS RX0 80 hz_A hz_up, w.before args s = true :=
  vx_hat (B := [.castable hz_A hz_A, .declares ⟨"java/lang/RuntimeException", "<init>", "(Ljava/lang/String;)V"⟩, .declares ⟨"java/lang/Exception", "<init>", "(Ljava/lang/String;)V"⟩, .declares ⟨"java/lang/Throwable", "<init>", "(Ljava/lang/String;)V"⟩]) (fun w hw => hts w (wb_mem (hz_in80 w hw) (List.mem_filter.mp hw).2)) (by decide +kernel)
    (vx_c (va_Nw.use rfl hZ.2.2.1.1) (vx_c (va_Nw.use rfl hZ.2.2.2.1.1) (vx_c (va_Nw.use rfl hZ.2.2.2.1.2.1) (vx_c (va_Nw.use rfl hZ.2.2.2.1.2.2) vx_n))))
theorem hz_at98 {args : Array Value} {s : State} {A : Nat → Prop} {H : Heap} (hts : ∀ w ∈ wb, w.before args s = true) (hZ : hz_F A s H) : ∀ w ∈ vx_atS RX0 98 hz_I hz_up, w.before args s = true :=
  vx_hat (B := [.castable hz_I hz_I, .declares ⟨"java/lang/RuntimeException", "<init>", "(Ljava/lang/String;)V"⟩, .declares ⟨"java/lang/Exception", "<init>", "(Ljava/lang/String;)V"⟩, .declares ⟨"java/lang/Throwable", "<init>", "(Ljava/lang/String;)V"⟩]) (fun w hw => hts w (wb_mem (hz_in98 w hw) (List.mem_filter.mp hw).2)) (by decide +kernel)
    (vx_c (va_Nw.use rfl hZ.2.2.1.2.1) (vx_c (va_Nw.use rfl hZ.2.2.2.1.1) (vx_c (va_Nw.use rfl hZ.2.2.2.1.2.1) (vx_c (va_Nw.use rfl hZ.2.2.2.1.2.2) vx_n))))
