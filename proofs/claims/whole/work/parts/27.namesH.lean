abbrev zc_La_code : ByteArray := method_3_code
def zy_La_code : MethodName := ⟨zR_La, "code", "(LShadowWarden;IIIIII)I"⟩
def zm_La_code : Room := { frames := 7, cells := 1, slots := 6, locals := 126 }
abbrev zhh_La_code : List (Nat × Nat × Nat × Nat) := [(0, 13, 16, 13)]
theorem zd_La_code_0 : decode zc_La_code 0 = .ok (.aload_n 0, 1) := by decide +kernel
theorem zd_La_code_1 : decode zc_La_code 1 = .ok (.iload_n 1, 1) := by decide +kernel
theorem zd_La_code_2 : decode zc_La_code 2 = .ok (.iload_n 2, 1) := by decide +kernel
theorem zd_La_code_3 : decode zc_La_code 3 = .ok (.iload_n 3, 1) := by decide +kernel
theorem zd_La_code_4 : decode zc_La_code 4 = .ok (.iload 4, 2) := by decide +kernel
theorem zd_La_code_6 : decode zc_La_code 6 = .ok (.iload 5, 2) := by decide +kernel
theorem zd_La_code_8 : decode zc_La_code 8 = .ok (.iload 6, 2) := by decide +kernel
theorem zd_La_code_10 : decode zc_La_code 10 = .ok (.invokevirtual 7, 3) := by decide +kernel
theorem zd_La_code_13 : decode zc_La_code 13 = .ok (.goto 7, 3) := by decide +kernel
theorem zd_La_code_16 : decode zc_La_code 16 = .ok (.astore 7, 2) := by decide +kernel
theorem zd_La_code_18 : decode zc_La_code 18 = .ok (.iconst 1, 1) := by decide +kernel
theorem zd_La_code_19 : decode zc_La_code 19 = .ok (.ireturn, 1) := by decide +kernel
theorem zd_La_code_20 : decode zc_La_code 20 = .ok (.iconst 0, 1) := by decide +kernel
theorem zd_La_code_21 : decode zc_La_code 21 = .ok (.ireturn, 1) := by decide +kernel
theorem zl_La_7 : Cond.methodLink zR_La 7 zy_SW_code ∈ zz_WS := zz_in 349 (by decide +kernel) rfl
theorem zx_La_13 : Cond.classLink zR_La 13 (zt_ex 1) ∈ zz_WS := zz_in 348 (by decide +kernel) rfl
abbrev zc_La_start : ByteArray := method_4_code
def zy_La_start : MethodName := ⟨zR_La, "start", "(LShadowWarden;I)I"⟩
def zm_La_start : Room := { frames := 7, cells := 1, slots := 6, locals := 121 }
abbrev zhh_La_start : List (Nat × Nat × Nat × Nat) := [(0, 5, 8, 13)]
theorem zd_La_start_0 : decode zc_La_start 0 = .ok (.aload_n 0, 1) := by decide +kernel
theorem zd_La_start_1 : decode zc_La_start 1 = .ok (.iload_n 1, 1) := by decide +kernel
theorem zd_La_start_2 : decode zc_La_start 2 = .ok (.invokevirtual 15, 3) := by decide +kernel
theorem zd_La_start_5 : decode zc_La_start 5 = .ok (.goto 6, 3) := by decide +kernel
theorem zd_La_start_8 : decode zc_La_start 8 = .ok (.astore_n 2, 1) := by decide +kernel
theorem zd_La_start_9 : decode zc_La_start 9 = .ok (.iconst 1, 1) := by decide +kernel
theorem zd_La_start_10 : decode zc_La_start 10 = .ok (.ireturn, 1) := by decide +kernel
theorem zd_La_start_11 : decode zc_La_start 11 = .ok (.iconst 0, 1) := by decide +kernel
theorem zd_La_start_12 : decode zc_La_start 12 = .ok (.ireturn, 1) := by decide +kernel
theorem zl_La_15 : Cond.methodLink zR_La 15 zy_SW_start ∈ zz_WS := zz_in 437 (by decide +kernel) rfl
abbrev zc_La_run : ByteArray := method_5_code
def zy_La_run : MethodName := ⟨zR_La, "run", "(LShadowWarden;I[J)I"⟩
def zm_La_run : Room := { frames := 7, cells := 1, slots := 6, locals := 161 }
abbrev zhh_La_run : List (Nat × Nat × Nat × Nat) := [(0, 9, 12, 13), (0, 9, 15, 23), (0, 9, 18, 25)]
theorem zd_La_run_0 : decode zc_La_run 0 = .ok (.aload_n 2, 1) := by decide +kernel
theorem zd_La_run_1 : decode zc_La_run 1 = .ok (.iconst 0, 1) := by decide +kernel
theorem zd_La_run_2 : decode zc_La_run 2 = .ok (.aload_n 0, 1) := by decide +kernel
theorem zd_La_run_3 : decode zc_La_run 3 = .ok (.iload_n 1, 1) := by decide +kernel
theorem zd_La_run_4 : decode zc_La_run 4 = .ok (.invokevirtual 19, 3) := by decide +kernel
theorem zd_La_run_7 : decode zc_La_run 7 = .ok (.i2l, 1) := by decide +kernel
theorem zd_La_run_8 : decode zc_La_run 8 = .ok (.lastore, 1) := by decide +kernel
theorem zd_La_run_9 : decode zc_La_run 9 = .ok (.goto 12, 3) := by decide +kernel
theorem zd_La_run_12 : decode zc_La_run 12 = .ok (.astore_n 3, 1) := by decide +kernel
theorem zd_La_run_13 : decode zc_La_run 13 = .ok (.iconst 1, 1) := by decide +kernel
theorem zd_La_run_14 : decode zc_La_run 14 = .ok (.ireturn, 1) := by decide +kernel
theorem zd_La_run_15 : decode zc_La_run 15 = .ok (.astore_n 3, 1) := by decide +kernel
theorem zd_La_run_16 : decode zc_La_run 16 = .ok (.iconst 2, 1) := by decide +kernel
theorem zd_La_run_17 : decode zc_La_run 17 = .ok (.ireturn, 1) := by decide +kernel
theorem zd_La_run_18 : decode zc_La_run 18 = .ok (.astore_n 3, 1) := by decide +kernel
theorem zd_La_run_19 : decode zc_La_run 19 = .ok (.iconst 3, 1) := by decide +kernel
theorem zd_La_run_20 : decode zc_La_run 20 = .ok (.ireturn, 1) := by decide +kernel
theorem zd_La_run_21 : decode zc_La_run 21 = .ok (.iconst 0, 1) := by decide +kernel
theorem zd_La_run_22 : decode zc_La_run 22 = .ok (.ireturn, 1) := by decide +kernel
theorem zl_La_19 : Cond.methodLink zR_La 19 zy_SW_run ∈ zz_WS := zz_in 451 (by decide +kernel) rfl
theorem zx_La_23 : Cond.classLink zR_La 23 (zt_ex 2) ∈ zz_WS := zz_in 449 (by decide +kernel) rfl
theorem zx_La_25 : Cond.classLink zR_La 25 (zt_ex 3) ∈ zz_WS := zz_in 450 (by decide +kernel) rfl
abbrev zc_La_register : ByteArray := method_6_code
def zy_La_register : MethodName := ⟨zR_La, "register", "(LShadowWarden;II[J)I"⟩
def zm_La_register : Room := { frames := 7, cells := 1, slots := 6, locals := 122 }
abbrev zhh_La_register : List (Nat × Nat × Nat × Nat) := [(0, 10, 13, 13)]
theorem zd_La_register_0 : decode zc_La_register 0 = .ok (.aload_n 3, 1) := by decide +kernel
theorem zd_La_register_1 : decode zc_La_register 1 = .ok (.iconst 0, 1) := by decide +kernel
theorem zd_La_register_2 : decode zc_La_register 2 = .ok (.aload_n 0, 1) := by decide +kernel
theorem zd_La_register_3 : decode zc_La_register 3 = .ok (.iload_n 1, 1) := by decide +kernel
theorem zd_La_register_4 : decode zc_La_register 4 = .ok (.iload_n 2, 1) := by decide +kernel
theorem zd_La_register_5 : decode zc_La_register 5 = .ok (.invokevirtual 27, 3) := by decide +kernel
theorem zd_La_register_8 : decode zc_La_register 8 = .ok (.i2l, 1) := by decide +kernel
theorem zd_La_register_9 : decode zc_La_register 9 = .ok (.lastore, 1) := by decide +kernel
theorem zd_La_register_10 : decode zc_La_register 10 = .ok (.goto 7, 3) := by decide +kernel
theorem zd_La_register_13 : decode zc_La_register 13 = .ok (.astore 4, 2) := by decide +kernel
theorem zd_La_register_15 : decode zc_La_register 15 = .ok (.iconst 1, 1) := by decide +kernel
theorem zd_La_register_16 : decode zc_La_register 16 = .ok (.ireturn, 1) := by decide +kernel
theorem zd_La_register_17 : decode zc_La_register 17 = .ok (.iconst 0, 1) := by decide +kernel
theorem zd_La_register_18 : decode zc_La_register 18 = .ok (.ireturn, 1) := by decide +kernel
theorem zl_La_27 : Cond.methodLink zR_La 27 zy_SW_register ∈ zz_WS := zz_in 665 (by decide +kernel) rfl
abbrev zc_La_memory : ByteArray := method_7_code
def zy_La_memory : MethodName := ⟨zR_La, "memory", "(LShadowWarden;II[J)I"⟩
def zm_La_memory : Room := { frames := 7, cells := 1, slots := 6, locals := 122 }
abbrev zhh_La_memory : List (Nat × Nat × Nat × Nat) := [(0, 10, 13, 13)]
theorem zd_La_memory_0 : decode zc_La_memory 0 = .ok (.aload_n 3, 1) := by decide +kernel
theorem zd_La_memory_1 : decode zc_La_memory 1 = .ok (.iconst 0, 1) := by decide +kernel
theorem zd_La_memory_2 : decode zc_La_memory 2 = .ok (.aload_n 0, 1) := by decide +kernel
theorem zd_La_memory_3 : decode zc_La_memory 3 = .ok (.iload_n 1, 1) := by decide +kernel
theorem zd_La_memory_4 : decode zc_La_memory 4 = .ok (.iload_n 2, 1) := by decide +kernel
theorem zd_La_memory_5 : decode zc_La_memory 5 = .ok (.invokevirtual 31, 3) := by decide +kernel
theorem zd_La_memory_8 : decode zc_La_memory 8 = .ok (.i2l, 1) := by decide +kernel
theorem zd_La_memory_9 : decode zc_La_memory 9 = .ok (.lastore, 1) := by decide +kernel
theorem zd_La_memory_10 : decode zc_La_memory 10 = .ok (.goto 7, 3) := by decide +kernel
theorem zd_La_memory_13 : decode zc_La_memory 13 = .ok (.astore 4, 2) := by decide +kernel
theorem zd_La_memory_15 : decode zc_La_memory 15 = .ok (.iconst 1, 1) := by decide +kernel
theorem zd_La_memory_16 : decode zc_La_memory 16 = .ok (.ireturn, 1) := by decide +kernel
theorem zd_La_memory_17 : decode zc_La_memory 17 = .ok (.iconst 0, 1) := by decide +kernel
theorem zd_La_memory_18 : decode zc_La_memory 18 = .ok (.ireturn, 1) := by decide +kernel
theorem zl_La_31 : Cond.methodLink zR_La 31 zy_SW_memory ∈ zz_WS := zz_in 674 (by decide +kernel) rfl
abbrev zc_La_poke : ByteArray := method_8_code
def zy_La_poke : MethodName := ⟨zR_La, "poke", "(LShadowWarden;II)I"⟩
def zm_La_poke : Room := { frames := 7, cells := 1, slots := 6, locals := 122 }
abbrev zhh_La_poke : List (Nat × Nat × Nat × Nat) := [(0, 6, 9, 13)]
theorem zd_La_poke_0 : decode zc_La_poke 0 = .ok (.aload_n 0, 1) := by decide +kernel
theorem zd_La_poke_1 : decode zc_La_poke 1 = .ok (.iload_n 1, 1) := by decide +kernel
theorem zd_La_poke_2 : decode zc_La_poke 2 = .ok (.iload_n 2, 1) := by decide +kernel
theorem zd_La_poke_3 : decode zc_La_poke 3 = .ok (.invokevirtual 34, 3) := by decide +kernel
theorem zd_La_poke_6 : decode zc_La_poke 6 = .ok (.goto 6, 3) := by decide +kernel
theorem zd_La_poke_9 : decode zc_La_poke 9 = .ok (.astore_n 3, 1) := by decide +kernel
theorem zd_La_poke_10 : decode zc_La_poke 10 = .ok (.iconst 1, 1) := by decide +kernel
theorem zd_La_poke_11 : decode zc_La_poke 11 = .ok (.ireturn, 1) := by decide +kernel
theorem zd_La_poke_12 : decode zc_La_poke 12 = .ok (.iconst 0, 1) := by decide +kernel
theorem zd_La_poke_13 : decode zc_La_poke 13 = .ok (.ireturn, 1) := by decide +kernel
theorem zl_La_34 : Cond.methodLink zR_La 34 zy_SW_poke ∈ zz_WS := zz_in 685 (by decide +kernel) rfl
abbrev zc_La_finding : ByteArray := method_9_code
def zy_La_finding : MethodName := ⟨zR_La, "finding", "(LShadowWarden;II[J)I"⟩
def zm_La_finding : Room := { frames := 7, cells := 1, slots := 6, locals := 122 }
abbrev zhh_La_finding : List (Nat × Nat × Nat × Nat) := [(0, 10, 13, 13), (0, 10, 17, 41)]
theorem zd_La_finding_0 : decode zc_La_finding 0 = .ok (.aload_n 3, 1) := by decide +kernel
theorem zd_La_finding_1 : decode zc_La_finding 1 = .ok (.iconst 0, 1) := by decide +kernel
theorem zd_La_finding_2 : decode zc_La_finding 2 = .ok (.aload_n 0, 1) := by decide +kernel
theorem zd_La_finding_3 : decode zc_La_finding 3 = .ok (.iload_n 1, 1) := by decide +kernel
theorem zd_La_finding_4 : decode zc_La_finding 4 = .ok (.iload_n 2, 1) := by decide +kernel
theorem zd_La_finding_5 : decode zc_La_finding 5 = .ok (.invokevirtual 38, 3) := by decide +kernel
theorem zd_La_finding_8 : decode zc_La_finding 8 = .ok (.i2l, 1) := by decide +kernel
theorem zd_La_finding_9 : decode zc_La_finding 9 = .ok (.lastore, 1) := by decide +kernel
theorem zd_La_finding_10 : decode zc_La_finding 10 = .ok (.goto 11, 3) := by decide +kernel
theorem zd_La_finding_13 : decode zc_La_finding 13 = .ok (.astore 4, 2) := by decide +kernel
theorem zd_La_finding_15 : decode zc_La_finding 15 = .ok (.iconst 1, 1) := by decide +kernel
theorem zd_La_finding_16 : decode zc_La_finding 16 = .ok (.ireturn, 1) := by decide +kernel
theorem zd_La_finding_17 : decode zc_La_finding 17 = .ok (.astore 4, 2) := by decide +kernel
theorem zd_La_finding_19 : decode zc_La_finding 19 = .ok (.iconst 2, 1) := by decide +kernel
theorem zd_La_finding_20 : decode zc_La_finding 20 = .ok (.ireturn, 1) := by decide +kernel
theorem zd_La_finding_21 : decode zc_La_finding 21 = .ok (.iconst 0, 1) := by decide +kernel
theorem zd_La_finding_22 : decode zc_La_finding 22 = .ok (.ireturn, 1) := by decide +kernel
theorem zl_La_38 : Cond.methodLink zR_La 38 zy_SW_finding ∈ zz_WS := zz_in 694 (by decide +kernel) rfl
theorem zx_La_41 : Cond.classLink zR_La 41 (zt_ex 4) ∈ zz_WS := zz_in 693 (by decide +kernel) rfl
abbrev zc_La_block : ByteArray := method_10_code
def zy_La_block : MethodName := ⟨zR_La, "block", "(LShadowWarden;II[J)I"⟩
def zm_La_block : Room := { frames := 7, cells := 1, slots := 6, locals := 157 }
abbrev zhh_La_block : List (Nat × Nat × Nat × Nat) := [(0, 10, 13, 13), (0, 10, 17, 41)]
theorem zd_La_block_0 : decode zc_La_block 0 = .ok (.aload_n 3, 1) := by decide +kernel
theorem zd_La_block_1 : decode zc_La_block 1 = .ok (.iconst 0, 1) := by decide +kernel
theorem zd_La_block_2 : decode zc_La_block 2 = .ok (.aload_n 0, 1) := by decide +kernel
theorem zd_La_block_3 : decode zc_La_block 3 = .ok (.iload_n 1, 1) := by decide +kernel
theorem zd_La_block_4 : decode zc_La_block 4 = .ok (.iload_n 2, 1) := by decide +kernel
theorem zd_La_block_5 : decode zc_La_block 5 = .ok (.invokevirtual 43, 3) := by decide +kernel
theorem zd_La_block_8 : decode zc_La_block 8 = .ok (.i2l, 1) := by decide +kernel
theorem zd_La_block_9 : decode zc_La_block 9 = .ok (.lastore, 1) := by decide +kernel
theorem zd_La_block_10 : decode zc_La_block 10 = .ok (.goto 11, 3) := by decide +kernel
theorem zd_La_block_13 : decode zc_La_block 13 = .ok (.astore 4, 2) := by decide +kernel
theorem zd_La_block_15 : decode zc_La_block 15 = .ok (.iconst 1, 1) := by decide +kernel
theorem zd_La_block_16 : decode zc_La_block 16 = .ok (.ireturn, 1) := by decide +kernel
theorem zd_La_block_17 : decode zc_La_block 17 = .ok (.astore 4, 2) := by decide +kernel
theorem zd_La_block_19 : decode zc_La_block 19 = .ok (.iconst 2, 1) := by decide +kernel
theorem zd_La_block_20 : decode zc_La_block 20 = .ok (.ireturn, 1) := by decide +kernel
theorem zd_La_block_21 : decode zc_La_block 21 = .ok (.iconst 0, 1) := by decide +kernel
theorem zd_La_block_22 : decode zc_La_block 22 = .ok (.ireturn, 1) := by decide +kernel
theorem zl_La_43 : Cond.methodLink zR_La 43 zy_SW_block ∈ zz_WS := zz_in 736 (by decide +kernel) rfl
abbrev zc_La_leaks : ByteArray := method_11_code
def zy_La_leaks : MethodName := ⟨zR_La, "leaks", "(LShadowWarden;I[J)I"⟩
def zm_La_leaks : Room := { frames := 7, cells := 1, slots := 6, locals := 155 }
abbrev zhh_La_leaks : List (Nat × Nat × Nat × Nat) := [(0, 9, 12, 13)]
theorem zd_La_leaks_0 : decode zc_La_leaks 0 = .ok (.aload_n 2, 1) := by decide +kernel
theorem zd_La_leaks_1 : decode zc_La_leaks 1 = .ok (.iconst 0, 1) := by decide +kernel
theorem zd_La_leaks_2 : decode zc_La_leaks 2 = .ok (.aload_n 0, 1) := by decide +kernel
theorem zd_La_leaks_3 : decode zc_La_leaks 3 = .ok (.iload_n 1, 1) := by decide +kernel
theorem zd_La_leaks_4 : decode zc_La_leaks 4 = .ok (.invokevirtual 46, 3) := by decide +kernel
theorem zd_La_leaks_7 : decode zc_La_leaks 7 = .ok (.i2l, 1) := by decide +kernel
theorem zd_La_leaks_8 : decode zc_La_leaks 8 = .ok (.lastore, 1) := by decide +kernel
theorem zd_La_leaks_9 : decode zc_La_leaks 9 = .ok (.goto 6, 3) := by decide +kernel
theorem zd_La_leaks_12 : decode zc_La_leaks 12 = .ok (.astore_n 3, 1) := by decide +kernel
theorem zd_La_leaks_13 : decode zc_La_leaks 13 = .ok (.iconst 1, 1) := by decide +kernel
theorem zd_La_leaks_14 : decode zc_La_leaks 14 = .ok (.ireturn, 1) := by decide +kernel
theorem zd_La_leaks_15 : decode zc_La_leaks 15 = .ok (.iconst 0, 1) := by decide +kernel
theorem zd_La_leaks_16 : decode zc_La_leaks 16 = .ok (.ireturn, 1) := by decide +kernel
theorem zl_La_46 : Cond.methodLink zR_La 46 zy_SW_leaks ∈ zz_WS := zz_in 804 (by decide +kernel) rfl
