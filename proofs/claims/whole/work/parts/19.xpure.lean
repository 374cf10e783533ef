/-! headers and contents, read by the program -/
theorem hp_1 : (1 : Int32) = nI 1 := by decide +kernel
theorem hp_1a (n : Nat) : 1 + nI n = nI (1 + n) := by rw [hp_1]; exact nI_add 1 n
theorem hp_rkind {M : hp_S} (hW : hp_W M) {ce : Nat → Int64} {o : Nat} (ho : o ∈ hp_L M) (h : ce (hp_pl M o) = hp_h M o) : (ce (hp_pl M o)).toInt32 &&& 3 = nI (hp_k M o) := by
  rw [h]; exact hp_h_kind hW ho
theorem hp_rlen {M : hp_S} (hW : hp_W M) {ce : Nat → Int64} {o : Nat} (ho : o ∈ hp_L M) (h : ce (hp_pl M o) = hp_h M o) : (ce (hp_pl M o)).toInt32 >>> ((2 : Int32) &&& 31) = nI (hp_z M o) := by
  rw [h]; exact hp_h_len hW ho
theorem hp_rsize {M : hp_S} (hW : hp_W M) {ce : Nat → Int64} {o : Nat} (ho : o ∈ hp_L M) (h : ce (hp_pl M o) = hp_h M o) : 1 + (ce (hp_pl M o)).toInt32 >>> ((2 : Int32) &&& 31) = nI (1 + hp_z M o) := by
  rw [hp_rlen hW ho h]; exact hp_1a _
theorem hp_rref {M : hp_S} {ce : Nat → Int64} {o i : Nat} (hk : hp_k M o ≠ 2) (h : ce (hp_pl M o + (1 + i)) = hp_v M o i) : (ce (hp_pl M o + (1 + i))).toInt32 = hp_e M (hp_l M o i) := by
  rw [h]; unfold hp_v; rw [if_neg hk, hp_32]
theorem hp_k1 {M : hp_S} (hW : hp_W M) {o : Nat} (ho : o ∈ hp_L M) {n : Nat} (hn : n < 4) : nI (hp_k M o) = nI n ↔ hp_k M o = n := nI_eq (by have := (hW.2.1 o ho).2.2.2.1; omega) (by omega)
