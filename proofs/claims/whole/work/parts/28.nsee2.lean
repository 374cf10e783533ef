theorem hz_in89 : ∀ w ∈ (hz_atS RX0 89 hz_N "java/lang/RuntimeException" ["java/lang/Exception"] 13 prog_12_method_4_code).filter goodWord, w ∈ lw_tbl := by decide +kernel
theorem hz_at89 {args : Array Value} {s : State} {A : Nat → Prop} {H : Heap} (hts : ∀ w ∈ wb, w.before args s = true) (hZ : hz_F A s H) : ∀ w ∈ hz_atS RX0 89 hz_N "java/lang/RuntimeException" ["java/lang/Exception"] 13 prog_12_method_4_code, w.before args s = true :=
  vx_hat (B := [.castable hz_N hz_N, .declares ⟨"java/lang/RuntimeException", "<init>", "(Ljava/lang/String;)V"⟩, .declares ⟨"java/lang/Exception", "<init>", "(Ljava/lang/String;)V"⟩, .declares ⟨"java/lang/Throwable", "<init>", "(Ljava/lang/String;)V"⟩]) (fun w hw => hts w (wb_mem (hz_in89 w hw) (List.mem_filter.mp hw).2)) (by decide +kernel)
    (vx_c (va_Nw.use rfl hZ.2.2.1.2.2) (vx_c (va_Nw.use rfl hZ.2.2.2.1.1) (vx_c (va_Nw.use rfl hZ.2.2.2.1.2.1) (vx_c (va_Nw.use rfl hZ.2.2.2.1.2.2) vx_n))))
theorem hz_b0 : decode prog_12_method_4_code 0 = .ok (.aload_n 0, 1) := by decide +kernel
theorem hz_b1 : decode prog_12_method_4_code 1 = .ok (.aload_n 1, 1) := by decide +kernel
theorem hz_b2 : decode prog_12_method_4_code 2 = .ok (.invokespecial 13, 3) := by decide +kernel
theorem hz_b5 : decode prog_12_method_4_code 5 = .ok (.return_, 1) := by decide +kernel
