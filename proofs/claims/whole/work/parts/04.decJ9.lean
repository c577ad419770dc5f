-- decode rows of J9
theorem eJ9_max_7cf53_0 : Dc MJ9_max_7cf53 0 (.iload_n 0) 1 1 := ⟨by decide +kernel, rfl⟩
theorem eJ9_max_7cf53_1 : Dc MJ9_max_7cf53 1 (.iload_n 1) 1 2 := ⟨by decide +kernel, rfl⟩
theorem eJ9_max_7cf53_2 : Dc MJ9_max_7cf53 2 (.if_icmp .lt 7) 3 5 := ⟨by decide +kernel, rfl⟩
theorem eJ9_max_7cf53_5 : Dc MJ9_max_7cf53 5 (.iload_n 0) 1 6 := ⟨by decide +kernel, rfl⟩
theorem eJ9_max_7cf53_6 : Dc MJ9_max_7cf53 6 (.goto 4) 3 9 := ⟨by decide +kernel, rfl⟩
theorem eJ9_max_7cf53_9 : Dc MJ9_max_7cf53 9 (.iload_n 1) 1 10 := ⟨by decide +kernel, rfl⟩
theorem eJ9_max_7cf53_10 : Dc MJ9_max_7cf53 10 (.ireturn) 1 11 := ⟨by decide +kernel, rfl⟩
