abbrev zc_SW_code : ByteArray := prog_1_method_2_code
def zy_SW_code : MethodName := ⟨zR_SW, "code", "(IIIIII)V"⟩
def zm_SW_code : Room := { frames := 6, cells := 1, slots := 6, locals := 100 }
abbrev zc_SW_start : ByteArray := prog_1_method_3_code
def zy_SW_start : MethodName := ⟨zR_SW, "start", "(I)V"⟩
def zm_SW_start : Room := { frames := 6, cells := 1, slots := 6, locals := 100 }
abbrev zc_SW_run : ByteArray := prog_1_method_4_code
def zy_SW_run : MethodName := ⟨zR_SW, "run", "(I)I"⟩
def zm_SW_run : Room := { frames := 6, cells := 1, slots := 6, locals := 139 }
abbrev zc_SW_register : ByteArray := prog_1_method_5_code
def zy_SW_register : MethodName := ⟨zR_SW, "register", "(II)I"⟩
def zm_SW_register : Room := { frames := 6, cells := 1, slots := 6, locals := 100 }
abbrev zc_SW_memory : ByteArray := prog_1_method_6_code
def zy_SW_memory : MethodName := ⟨zR_SW, "memory", "(II)I"⟩
def zm_SW_memory : Room := { frames := 6, cells := 1, slots := 6, locals := 100 }
abbrev zc_SW_poke : ByteArray := prog_1_method_7_code
def zy_SW_poke : MethodName := ⟨zR_SW, "poke", "(II)V"⟩
def zm_SW_poke : Room := { frames := 6, cells := 1, slots := 6, locals := 100 }
abbrev zc_SW_finding : ByteArray := prog_1_method_8_code
def zy_SW_finding : MethodName := ⟨zR_SW, "finding", "(II)I"⟩
def zm_SW_finding : Room := { frames := 6, cells := 1, slots := 6, locals := 100 }
abbrev zc_SW_block : ByteArray := prog_1_method_9_code
def zy_SW_block : MethodName := ⟨zR_SW, "block", "(II)I"⟩
def zm_SW_block : Room := { frames := 6, cells := 1, slots := 6, locals := 134 }
abbrev zc_SW_leaks : ByteArray := prog_1_method_10_code
def zy_SW_leaks : MethodName := ⟨zR_SW, "leaks", "(I)I"⟩
def zm_SW_leaks : Room := { frames := 6, cells := 1, slots := 6, locals := 134 }
theorem zkw_SW_code : zz_kv zy_SW_code zc_SW_code 7 none 6 := ⟨zz_in 350 (by decide +kernel) rfl, zz_in 351 (by decide +kernel) rfl, zz_in 48 (by decide +kernel) rfl, zz_in 352 (by decide +kernel) rfl, by decide +kernel, by decide +kernel, by decide +kernel⟩
theorem zkw_SW_start : zz_kv zy_SW_start zc_SW_start 2 none 1 := ⟨zz_in 438 (by decide +kernel) rfl, zz_in 439 (by decide +kernel) rfl, zz_in 48 (by decide +kernel) rfl, zz_in 440 (by decide +kernel) rfl, by decide +kernel, by decide +kernel, by decide +kernel⟩
theorem zkw_SW_run : zz_kv zy_SW_run zc_SW_run 3 (some .int) 1 := ⟨zz_in 452 (by decide +kernel) rfl, zz_in 453 (by decide +kernel) rfl, zz_in 48 (by decide +kernel) rfl, zz_in 454 (by decide +kernel) rfl, by decide +kernel, by decide +kernel, by decide +kernel⟩
theorem zkw_SW_register : zz_kv zy_SW_register zc_SW_register 3 (some .int) 2 := ⟨zz_in 666 (by decide +kernel) rfl, zz_in 667 (by decide +kernel) rfl, zz_in 48 (by decide +kernel) rfl, zz_in 668 (by decide +kernel) rfl, by decide +kernel, by decide +kernel, by decide +kernel⟩
theorem zkw_SW_memory : zz_kv zy_SW_memory zc_SW_memory 3 (some .int) 2 := ⟨zz_in 675 (by decide +kernel) rfl, zz_in 676 (by decide +kernel) rfl, zz_in 48 (by decide +kernel) rfl, zz_in 677 (by decide +kernel) rfl, by decide +kernel, by decide +kernel, by decide +kernel⟩
theorem zkw_SW_poke : zz_kv zy_SW_poke zc_SW_poke 3 none 2 := ⟨zz_in 686 (by decide +kernel) rfl, zz_in 687 (by decide +kernel) rfl, zz_in 48 (by decide +kernel) rfl, zz_in 688 (by decide +kernel) rfl, by decide +kernel, by decide +kernel, by decide +kernel⟩
theorem zkw_SW_finding : zz_kv zy_SW_finding zc_SW_finding 3 (some .int) 2 := ⟨zz_in 695 (by decide +kernel) rfl, zz_in 696 (by decide +kernel) rfl, zz_in 48 (by decide +kernel) rfl, zz_in 697 (by decide +kernel) rfl, by decide +kernel, by decide +kernel, by decide +kernel⟩
theorem zkw_SW_block : zz_kv zy_SW_block zc_SW_block 4 (some .int) 2 := ⟨zz_in 737 (by decide +kernel) rfl, zz_in 738 (by decide +kernel) rfl, zz_in 48 (by decide +kernel) rfl, zz_in 739 (by decide +kernel) rfl, by decide +kernel, by decide +kernel, by decide +kernel⟩
theorem zkw_SW_leaks : zz_kv zy_SW_leaks zc_SW_leaks 2 (some .int) 1 := ⟨zz_in 805 (by decide +kernel) rfl, zz_in 806 (by decide +kernel) rfl, zz_in 48 (by decide +kernel) rfl, zz_in 807 (by decide +kernel) rfl, by decide +kernel, by decide +kernel, by decide +kernel⟩
theorem zl_SW_73 : Cond.methodLink zR_SW 73 zy_Pr_has ∈ zz_WS := zz_in 353 (by decide +kernel) rfl
theorem zl_SW_77 : Cond.methodLink zR_SW 77 zy_SW_isWithin ∈ zz_WS := zz_in 356 (by decide +kernel) rfl
theorem zl_SW_81 : Cond.methodLink zR_SW 81 zy_Re_has ∈ zz_WS := zz_in 359 (by decide +kernel) rfl
theorem zl_SW_85 : Cond.methodLink zR_SW 85 zy_Pr_write ∈ zz_WS := zz_in 426 (by decide +kernel) rfl
theorem zl_SW_89 : Cond.methodLink zR_SW 89 zy_Pi_throwAwayWith ∈ zz_WS := zz_in 430 (by decide +kernel) rfl
theorem zl_SW_93 : Cond.methodLink zR_SW 93 zy_Ma_beginAt ∈ zz_WS := zz_in 441 (by decide +kernel) rfl
theorem zl_SW_103 : Cond.methodLink zR_SW 103 zy_Ma_perform ∈ zz_WS := zz_in 470 (by decide +kernel) rfl
theorem zl_SW_107 : Cond.methodLink zR_SW 107 zy_Ma_hasFaulted ∈ zz_WS := zz_in 643 (by decide +kernel) rfl
theorem zl_SW_113 : Cond.methodLink zR_SW 113 zy_Re_value ∈ zz_WS := zz_in 669 (by decide +kernel) rfl
theorem zl_SW_116 : Cond.methodLink zR_SW 116 zy_Re_known ∈ zz_WS := zz_in 670 (by decide +kernel) rfl
theorem zl_SW_119 : Cond.methodLink zR_SW 119 zy_Me_has ∈ zz_WS := zz_in 678 (by decide +kernel) rfl
theorem zl_SW_121 : Cond.methodLink zR_SW 121 zy_Me_value ∈ zz_WS := zz_in 679 (by decide +kernel) rfl
theorem zl_SW_124 : Cond.methodLink zR_SW 124 zy_Me_firstClosed ∈ zz_WS := zz_in 680 (by decide +kernel) rfl
theorem zl_SW_127 : Cond.methodLink zR_SW 127 zy_Me_known ∈ zz_WS := zz_in 681 (by decide +kernel) rfl
theorem zl_SW_131 : Cond.methodLink zR_SW 131 zy_Me_put ∈ zz_WS := zz_in 689 (by decide +kernel) rfl
theorem zl_SW_135 : Cond.methodLink zR_SW 135 zy_Fi_has ∈ zz_WS := zz_in 698 (by decide +kernel) rfl
theorem zl_SW_139 : Cond.methodLink zR_SW 139 zy_Fi_kind ∈ zz_WS := zz_in 717 (by decide +kernel) rfl
theorem zl_SW_142 : Cond.methodLink zR_SW 142 zy_Fi_instruction ∈ zz_WS := zz_in 721 (by decide +kernel) rfl
theorem zl_SW_145 : Cond.methodLink zR_SW 145 zy_Fi_address ∈ zz_WS := zz_in 725 (by decide +kernel) rfl
theorem zl_SW_148 : Cond.methodLink zR_SW 148 zy_Fi_times ∈ zz_WS := zz_in 729 (by decide +kernel) rfl
theorem zl_SW_151 : Cond.methodLink zR_SW 151 zy_He_indexOfNumber ∈ zz_WS := zz_in 740 (by decide +kernel) rfl
theorem zl_SW_154 : Cond.methodLink zR_SW 154 zy_He_address ∈ zz_WS := zz_in 744 (by decide +kernel) rfl
theorem zl_SW_155 : Cond.methodLink zR_SW 155 zy_He_size ∈ zz_WS := zz_in 748 (by decide +kernel) rfl
theorem zl_SW_158 : Cond.methodLink zR_SW 158 zy_He_isLive ∈ zz_WS := zz_in 752 (by decide +kernel) rfl
theorem zl_SW_161 : Cond.methodLink zR_SW 161 zy_LS_make ∈ zz_WS := zz_in 753 (by decide +kernel) rfl
theorem zl_SW_164 : Cond.methodLink zR_SW 164 zy_LS_verdict ∈ zz_WS := zz_in 797 (by decide +kernel) rfl
theorem zl_SW_167 : Cond.methodLink zR_SW 167 zy_LS_howMany ∈ zz_WS := zz_in 808 (by decide +kernel) rfl
theorem zxi_1 : Cond.instantiable (zt_ex 1) 6 ∈ zz_WS := zz_in 363 (by decide +kernel) rfl
theorem zxj_1 : Cond.initialized (zt_ex 1) ∈ zz_WS := zz_in 61 (by decide +kernel) rfl
theorem zxi_2 : Cond.instantiable (zt_ex 2) 6 ∈ zz_WS := zz_in 456 (by decide +kernel) rfl
theorem zxj_2 : Cond.initialized (zt_ex 2) ∈ zz_WS := zz_in 62 (by decide +kernel) rfl
theorem zxi_3 : Cond.instantiable (zt_ex 3) 6 ∈ zz_WS := zz_in 648 (by decide +kernel) rfl
theorem zxj_3 : Cond.initialized (zt_ex 3) ∈ zz_WS := zz_in 65 (by decide +kernel) rfl
theorem zxi_4 : Cond.instantiable (zt_ex 4) 6 ∈ zz_WS := zz_in 703 (by decide +kernel) rfl
theorem zxj_4 : Cond.initialized (zt_ex 4) ∈ zz_WS := zz_in 66 (by decide +kernel) rfl
theorem zx_SW_82 : Cond.classLink zR_SW 82 (zt_ex 1) ∈ zz_WS := zz_in 362 (by decide +kernel) rfl
theorem zxk_SW_84 : zt_kw zR_SW 84 (zt_ex 1) := ⟨by decide +kernel, by decide +kernel⟩
theorem zx_SW_100 : Cond.classLink zR_SW 100 (zt_ex 2) ∈ zz_WS := zz_in 455 (by decide +kernel) rfl
theorem zxk_SW_102 : zt_kw zR_SW 102 (zt_ex 2) := ⟨by decide +kernel, by decide +kernel⟩
theorem zx_SW_110 : Cond.classLink zR_SW 110 (zt_ex 3) ∈ zz_WS := zz_in 647 (by decide +kernel) rfl
theorem zxk_SW_112 : zt_kw zR_SW 112 (zt_ex 3) := ⟨by decide +kernel, by decide +kernel⟩
theorem zx_SW_136 : Cond.classLink zR_SW 136 (zt_ex 4) ∈ zz_WS := zz_in 702 (by decide +kernel) rfl
theorem zxk_SW_138 : zt_kw zR_SW 138 (zt_ex 4) := ⟨by decide +kernel, by decide +kernel⟩
theorem zd_SW_code_0 : decode zc_SW_code 0 = .ok (.iload_n 1, 1) := by decide +kernel
theorem zd_SW_code_1 : decode zc_SW_code 1 = .ok (.invokestatic 73, 3) := by decide +kernel
theorem zd_SW_code_4 : decode zc_SW_code 4 = .ok (.ifCond .eq 35, 3) := by decide +kernel
theorem zd_SW_code_7 : decode zc_SW_code 7 = .ok (.iload_n 2, 1) := by decide +kernel
theorem zd_SW_code_8 : decode zc_SW_code 8 = .ok (.bipush 18, 2) := by decide +kernel
theorem zd_SW_code_10 : decode zc_SW_code 10 = .ok (.invokestatic 77, 3) := by decide +kernel
theorem zd_SW_code_13 : decode zc_SW_code 13 = .ok (.ifCond .eq 26, 3) := by decide +kernel
theorem zd_SW_code_16 : decode zc_SW_code 16 = .ok (.iload_n 3, 1) := by decide +kernel
theorem zd_SW_code_17 : decode zc_SW_code 17 = .ok (.invokestatic 81, 3) := by decide +kernel
theorem zd_SW_code_20 : decode zc_SW_code 20 = .ok (.ifCond .eq 19, 3) := by decide +kernel
theorem zd_SW_code_23 : decode zc_SW_code 23 = .ok (.iload 4, 2) := by decide +kernel
theorem zd_SW_code_25 : decode zc_SW_code 25 = .ok (.invokestatic 81, 3) := by decide +kernel
theorem zd_SW_code_28 : decode zc_SW_code 28 = .ok (.ifCond .eq 11, 3) := by decide +kernel
theorem zd_SW_code_31 : decode zc_SW_code 31 = .ok (.iload 5, 2) := by decide +kernel
theorem zd_SW_code_33 : decode zc_SW_code 33 = .ok (.invokestatic 81, 3) := by decide +kernel
theorem zd_SW_code_36 : decode zc_SW_code 36 = .ok (.ifCond .ne 11, 3) := by decide +kernel
theorem zd_SW_code_39 : decode zc_SW_code 39 = .ok (.new 82, 3) := by decide +kernel
theorem zd_SW_code_42 : decode zc_SW_code 42 = .ok (.dup, 1) := by decide +kernel
theorem zd_SW_code_43 : decode zc_SW_code 43 = .ok (.invokespecial 84, 3) := by decide +kernel
theorem zd_SW_code_46 : decode zc_SW_code 46 = .ok (.athrow, 1) := by decide +kernel
theorem zd_SW_code_47 : decode zc_SW_code 47 = .ok (.aload_n 0, 1) := by decide +kernel
theorem zd_SW_code_48 : decode zc_SW_code 48 = .ok (.getfield 26, 3) := by decide +kernel
theorem zd_SW_code_51 : decode zc_SW_code 51 = .ok (.iload_n 1, 1) := by decide +kernel
theorem zd_SW_code_52 : decode zc_SW_code 52 = .ok (.iload_n 2, 1) := by decide +kernel
theorem zd_SW_code_53 : decode zc_SW_code 53 = .ok (.iload_n 3, 1) := by decide +kernel
theorem zd_SW_code_54 : decode zc_SW_code 54 = .ok (.iload 4, 2) := by decide +kernel
theorem zd_SW_code_56 : decode zc_SW_code 56 = .ok (.iload 5, 2) := by decide +kernel
theorem zd_SW_code_58 : decode zc_SW_code 58 = .ok (.iload 6, 2) := by decide +kernel
theorem zd_SW_code_60 : decode zc_SW_code 60 = .ok (.invokevirtual 85, 3) := by decide +kernel
theorem zd_SW_code_63 : decode zc_SW_code 63 = .ok (.aload_n 0, 1) := by decide +kernel
theorem zd_SW_code_64 : decode zc_SW_code 64 = .ok (.getfield 35, 3) := by decide +kernel
theorem zd_SW_code_67 : decode zc_SW_code 67 = .ok (.iload_n 1, 1) := by decide +kernel
theorem zd_SW_code_68 : decode zc_SW_code 68 = .ok (.invokevirtual 89, 3) := by decide +kernel
theorem zd_SW_code_71 : decode zc_SW_code 71 = .ok (.return_, 1) := by decide +kernel
theorem zd_SW_start_0 : decode zc_SW_start 0 = .ok (.iload_n 1, 1) := by decide +kernel
theorem zd_SW_start_1 : decode zc_SW_start 1 = .ok (.invokestatic 73, 3) := by decide +kernel
theorem zd_SW_start_4 : decode zc_SW_start 4 = .ok (.ifCond .ne 11, 3) := by decide +kernel
theorem zd_SW_start_7 : decode zc_SW_start 7 = .ok (.new 82, 3) := by decide +kernel
theorem zd_SW_start_10 : decode zc_SW_start 10 = .ok (.dup, 1) := by decide +kernel
theorem zd_SW_start_11 : decode zc_SW_start 11 = .ok (.invokespecial 84, 3) := by decide +kernel
theorem zd_SW_start_14 : decode zc_SW_start 14 = .ok (.athrow, 1) := by decide +kernel
theorem zd_SW_start_15 : decode zc_SW_start 15 = .ok (.aload_n 0, 1) := by decide +kernel
theorem zd_SW_start_16 : decode zc_SW_start 16 = .ok (.getfield 69, 3) := by decide +kernel
theorem zd_SW_start_19 : decode zc_SW_start 19 = .ok (.iload_n 1, 1) := by decide +kernel
theorem zd_SW_start_20 : decode zc_SW_start 20 = .ok (.invokevirtual 93, 3) := by decide +kernel
theorem zd_SW_start_23 : decode zc_SW_start 23 = .ok (.return_, 1) := by decide +kernel
theorem zd_SW_run_0 : decode zc_SW_run 0 = .ok (.iload_n 1, 1) := by decide +kernel
theorem zd_SW_run_1 : decode zc_SW_run 1 = .ok (.iconst 1, 1) := by decide +kernel
theorem zd_SW_run_2 : decode zc_SW_run 2 = .ok (.if_icmp .lt 10, 3) := by decide +kernel
theorem zd_SW_run_5 : decode zc_SW_run 5 = .ok (.iload_n 1, 1) := by decide +kernel
theorem zd_SW_run_6 : decode zc_SW_run 6 = .ok (.sipush 200, 3) := by decide +kernel
theorem zd_SW_run_9 : decode zc_SW_run 9 = .ok (.if_icmp .le 11, 3) := by decide +kernel
theorem zd_SW_run_12 : decode zc_SW_run 12 = .ok (.new 82, 3) := by decide +kernel
theorem zd_SW_run_15 : decode zc_SW_run 15 = .ok (.dup, 1) := by decide +kernel
theorem zd_SW_run_16 : decode zc_SW_run 16 = .ok (.invokespecial 84, 3) := by decide +kernel
theorem zd_SW_run_19 : decode zc_SW_run 19 = .ok (.athrow, 1) := by decide +kernel
theorem zd_SW_run_20 : decode zc_SW_run 20 = .ok (.aload_n 0, 1) := by decide +kernel
theorem zd_SW_run_21 : decode zc_SW_run 21 = .ok (.getfield 69, 3) := by decide +kernel
theorem zd_SW_run_24 : decode zc_SW_run 24 = .ok (.invokevirtual 96, 3) := by decide +kernel
theorem zd_SW_run_27 : decode zc_SW_run 27 = .ok (.ifCond .eq 11, 3) := by decide +kernel
theorem zd_SW_run_30 : decode zc_SW_run 30 = .ok (.new 100, 3) := by decide +kernel
theorem zd_SW_run_33 : decode zc_SW_run 33 = .ok (.dup, 1) := by decide +kernel
theorem zd_SW_run_34 : decode zc_SW_run 34 = .ok (.invokespecial 102, 3) := by decide +kernel
theorem zd_SW_run_37 : decode zc_SW_run 37 = .ok (.athrow, 1) := by decide +kernel
theorem zd_SW_run_38 : decode zc_SW_run 38 = .ok (.aload_n 0, 1) := by decide +kernel
theorem zd_SW_run_39 : decode zc_SW_run 39 = .ok (.getfield 69, 3) := by decide +kernel
theorem zd_SW_run_42 : decode zc_SW_run 42 = .ok (.iload_n 1, 1) := by decide +kernel
theorem zd_SW_run_43 : decode zc_SW_run 43 = .ok (.invokevirtual 103, 3) := by decide +kernel
theorem zd_SW_run_46 : decode zc_SW_run 46 = .ok (.istore_n 2, 1) := by decide +kernel
theorem zd_SW_run_47 : decode zc_SW_run 47 = .ok (.aload_n 0, 1) := by decide +kernel
theorem zd_SW_run_48 : decode zc_SW_run 48 = .ok (.getfield 69, 3) := by decide +kernel
theorem zd_SW_run_51 : decode zc_SW_run 51 = .ok (.invokevirtual 107, 3) := by decide +kernel
theorem zd_SW_run_54 : decode zc_SW_run 54 = .ok (.ifCond .eq 11, 3) := by decide +kernel
theorem zd_SW_run_57 : decode zc_SW_run 57 = .ok (.new 110, 3) := by decide +kernel
theorem zd_SW_run_60 : decode zc_SW_run 60 = .ok (.dup, 1) := by decide +kernel
theorem zd_SW_run_61 : decode zc_SW_run 61 = .ok (.invokespecial 112, 3) := by decide +kernel
theorem zd_SW_run_64 : decode zc_SW_run 64 = .ok (.athrow, 1) := by decide +kernel
theorem zd_SW_run_65 : decode zc_SW_run 65 = .ok (.iload_n 2, 1) := by decide +kernel
theorem zd_SW_run_66 : decode zc_SW_run 66 = .ok (.ireturn, 1) := by decide +kernel
theorem zd_SW_register_0 : decode zc_SW_register 0 = .ok (.iload_n 1, 1) := by decide +kernel
theorem zd_SW_register_1 : decode zc_SW_register 1 = .ok (.invokestatic 81, 3) := by decide +kernel
theorem zd_SW_register_4 : decode zc_SW_register 4 = .ok (.ifCond .eq 11, 3) := by decide +kernel
theorem zd_SW_register_7 : decode zc_SW_register 7 = .ok (.iload_n 2, 1) := by decide +kernel
theorem zd_SW_register_8 : decode zc_SW_register 8 = .ok (.iconst 1, 1) := by decide +kernel
theorem zd_SW_register_9 : decode zc_SW_register 9 = .ok (.invokestatic 77, 3) := by decide +kernel
theorem zd_SW_register_12 : decode zc_SW_register 12 = .ok (.ifCond .ne 11, 3) := by decide +kernel
theorem zd_SW_register_15 : decode zc_SW_register 15 = .ok (.new 82, 3) := by decide +kernel
theorem zd_SW_register_18 : decode zc_SW_register 18 = .ok (.dup, 1) := by decide +kernel
theorem zd_SW_register_19 : decode zc_SW_register 19 = .ok (.invokespecial 84, 3) := by decide +kernel
theorem zd_SW_register_22 : decode zc_SW_register 22 = .ok (.athrow, 1) := by decide +kernel
theorem zd_SW_register_23 : decode zc_SW_register 23 = .ok (.iload_n 2, 1) := by decide +kernel
theorem zd_SW_register_24 : decode zc_SW_register 24 = .ok (.ifCond .ne 14, 3) := by decide +kernel
theorem zd_SW_register_27 : decode zc_SW_register 27 = .ok (.aload_n 0, 1) := by decide +kernel
theorem zd_SW_register_28 : decode zc_SW_register 28 = .ok (.getfield 19, 3) := by decide +kernel
theorem zd_SW_register_31 : decode zc_SW_register 31 = .ok (.iload_n 1, 1) := by decide +kernel
theorem zd_SW_register_32 : decode zc_SW_register 32 = .ok (.invokevirtual 113, 3) := by decide +kernel
theorem zd_SW_register_35 : decode zc_SW_register 35 = .ok (.goto 11, 3) := by decide +kernel
theorem zd_SW_register_38 : decode zc_SW_register 38 = .ok (.aload_n 0, 1) := by decide +kernel
theorem zd_SW_register_39 : decode zc_SW_register 39 = .ok (.getfield 19, 3) := by decide +kernel
theorem zd_SW_register_42 : decode zc_SW_register 42 = .ok (.iload_n 1, 1) := by decide +kernel
theorem zd_SW_register_43 : decode zc_SW_register 43 = .ok (.invokevirtual 116, 3) := by decide +kernel
theorem zd_SW_register_46 : decode zc_SW_register 46 = .ok (.ireturn, 1) := by decide +kernel
theorem zd_SW_memory_0 : decode zc_SW_memory 0 = .ok (.iload_n 1, 1) := by decide +kernel
theorem zd_SW_memory_1 : decode zc_SW_memory 1 = .ok (.iconst 1, 1) := by decide +kernel
theorem zd_SW_memory_2 : decode zc_SW_memory 2 = .ok (.invokestatic 119, 3) := by decide +kernel
theorem zd_SW_memory_5 : decode zc_SW_memory 5 = .ok (.ifCond .eq 11, 3) := by decide +kernel
theorem zd_SW_memory_8 : decode zc_SW_memory 8 = .ok (.iload_n 2, 1) := by decide +kernel
theorem zd_SW_memory_9 : decode zc_SW_memory 9 = .ok (.iconst 2, 1) := by decide +kernel
theorem zd_SW_memory_10 : decode zc_SW_memory 10 = .ok (.invokestatic 77, 3) := by decide +kernel
theorem zd_SW_memory_13 : decode zc_SW_memory 13 = .ok (.ifCond .ne 11, 3) := by decide +kernel
theorem zd_SW_memory_16 : decode zc_SW_memory 16 = .ok (.new 82, 3) := by decide +kernel
theorem zd_SW_memory_19 : decode zc_SW_memory 19 = .ok (.dup, 1) := by decide +kernel
theorem zd_SW_memory_20 : decode zc_SW_memory 20 = .ok (.invokespecial 84, 3) := by decide +kernel
theorem zd_SW_memory_23 : decode zc_SW_memory 23 = .ok (.athrow, 1) := by decide +kernel
theorem zd_SW_memory_24 : decode zc_SW_memory 24 = .ok (.iload_n 2, 1) := by decide +kernel
theorem zd_SW_memory_25 : decode zc_SW_memory 25 = .ok (.lookupswitch 56 #[(0, 27), (1, 37)], 27) := by decide +kernel
theorem zd_SW_memory_52 : decode zc_SW_memory 52 = .ok (.aload_n 0, 1) := by decide +kernel
theorem zd_SW_memory_53 : decode zc_SW_memory 53 = .ok (.getfield 10, 3) := by decide +kernel
theorem zd_SW_memory_56 : decode zc_SW_memory 56 = .ok (.iload_n 1, 1) := by decide +kernel
theorem zd_SW_memory_57 : decode zc_SW_memory 57 = .ok (.iconst 1, 1) := by decide +kernel
theorem zd_SW_memory_58 : decode zc_SW_memory 58 = .ok (.invokevirtual 121, 3) := by decide +kernel
theorem zd_SW_memory_61 : decode zc_SW_memory 61 = .ok (.ireturn, 1) := by decide +kernel
theorem zd_SW_memory_62 : decode zc_SW_memory 62 = .ok (.aload_n 0, 1) := by decide +kernel
theorem zd_SW_memory_63 : decode zc_SW_memory 63 = .ok (.getfield 10, 3) := by decide +kernel
theorem zd_SW_memory_66 : decode zc_SW_memory 66 = .ok (.iload_n 1, 1) := by decide +kernel
theorem zd_SW_memory_67 : decode zc_SW_memory 67 = .ok (.iconst 1, 1) := by decide +kernel
theorem zd_SW_memory_68 : decode zc_SW_memory 68 = .ok (.invokevirtual 124, 3) := by decide +kernel
theorem zd_SW_memory_71 : decode zc_SW_memory 71 = .ok (.iconst (-1), 1) := by decide +kernel
theorem zd_SW_memory_72 : decode zc_SW_memory 72 = .ok (.if_icmp .ne 7, 3) := by decide +kernel
theorem zd_SW_memory_75 : decode zc_SW_memory 75 = .ok (.iconst 1, 1) := by decide +kernel
theorem zd_SW_memory_76 : decode zc_SW_memory 76 = .ok (.goto 4, 3) := by decide +kernel
theorem zd_SW_memory_79 : decode zc_SW_memory 79 = .ok (.iconst 0, 1) := by decide +kernel
theorem zd_SW_memory_80 : decode zc_SW_memory 80 = .ok (.ireturn, 1) := by decide +kernel
theorem zd_SW_memory_81 : decode zc_SW_memory 81 = .ok (.aload_n 0, 1) := by decide +kernel
theorem zd_SW_memory_82 : decode zc_SW_memory 82 = .ok (.getfield 10, 3) := by decide +kernel
theorem zd_SW_memory_85 : decode zc_SW_memory 85 = .ok (.iload_n 1, 1) := by decide +kernel
theorem zd_SW_memory_86 : decode zc_SW_memory 86 = .ok (.iconst 1, 1) := by decide +kernel
theorem zd_SW_memory_87 : decode zc_SW_memory 87 = .ok (.invokevirtual 127, 3) := by decide +kernel
theorem zd_SW_memory_90 : decode zc_SW_memory 90 = .ok (.ireturn, 1) := by decide +kernel
theorem zd_SW_poke_0 : decode zc_SW_poke 0 = .ok (.iload_n 1, 1) := by decide +kernel
theorem zd_SW_poke_1 : decode zc_SW_poke 1 = .ok (.iconst 1, 1) := by decide +kernel
theorem zd_SW_poke_2 : decode zc_SW_poke 2 = .ok (.invokestatic 119, 3) := by decide +kernel
theorem zd_SW_poke_5 : decode zc_SW_poke 5 = .ok (.ifCond .eq 13, 3) := by decide +kernel
theorem zd_SW_poke_8 : decode zc_SW_poke 8 = .ok (.iload_n 2, 1) := by decide +kernel
theorem zd_SW_poke_9 : decode zc_SW_poke 9 = .ok (.sipush 255, 3) := by decide +kernel
theorem zd_SW_poke_12 : decode zc_SW_poke 12 = .ok (.invokestatic 77, 3) := by decide +kernel
theorem zd_SW_poke_15 : decode zc_SW_poke 15 = .ok (.ifCond .ne 11, 3) := by decide +kernel
theorem zd_SW_poke_18 : decode zc_SW_poke 18 = .ok (.new 82, 3) := by decide +kernel
theorem zd_SW_poke_21 : decode zc_SW_poke 21 = .ok (.dup, 1) := by decide +kernel
theorem zd_SW_poke_22 : decode zc_SW_poke 22 = .ok (.invokespecial 84, 3) := by decide +kernel
theorem zd_SW_poke_25 : decode zc_SW_poke 25 = .ok (.athrow, 1) := by decide +kernel
theorem zd_SW_poke_26 : decode zc_SW_poke 26 = .ok (.aload_n 0, 1) := by decide +kernel
theorem zd_SW_poke_27 : decode zc_SW_poke 27 = .ok (.getfield 10, 3) := by decide +kernel
theorem zd_SW_poke_30 : decode zc_SW_poke 30 = .ok (.iload_n 1, 1) := by decide +kernel
theorem zd_SW_poke_31 : decode zc_SW_poke 31 = .ok (.iconst 1, 1) := by decide +kernel
theorem zd_SW_poke_32 : decode zc_SW_poke 32 = .ok (.iload_n 2, 1) := by decide +kernel
theorem zd_SW_poke_33 : decode zc_SW_poke 33 = .ok (.bipush 15, 2) := by decide +kernel
theorem zd_SW_poke_35 : decode zc_SW_poke 35 = .ok (.invokevirtual 131, 3) := by decide +kernel
theorem zd_SW_poke_38 : decode zc_SW_poke 38 = .ok (.return_, 1) := by decide +kernel
theorem zd_SW_finding_0 : decode zc_SW_finding 0 = .ok (.iload_n 2, 1) := by decide +kernel
theorem zd_SW_finding_1 : decode zc_SW_finding 1 = .ok (.iconst 3, 1) := by decide +kernel
theorem zd_SW_finding_2 : decode zc_SW_finding 2 = .ok (.invokestatic 77, 3) := by decide +kernel
theorem zd_SW_finding_5 : decode zc_SW_finding 5 = .ok (.ifCond .ne 11, 3) := by decide +kernel
theorem zd_SW_finding_8 : decode zc_SW_finding 8 = .ok (.new 82, 3) := by decide +kernel
theorem zd_SW_finding_11 : decode zc_SW_finding 11 = .ok (.dup, 1) := by decide +kernel
theorem zd_SW_finding_12 : decode zc_SW_finding 12 = .ok (.invokespecial 84, 3) := by decide +kernel
theorem zd_SW_finding_15 : decode zc_SW_finding 15 = .ok (.athrow, 1) := by decide +kernel
theorem zd_SW_finding_16 : decode zc_SW_finding 16 = .ok (.aload_n 0, 1) := by decide +kernel
theorem zd_SW_finding_17 : decode zc_SW_finding 17 = .ok (.getfield 42, 3) := by decide +kernel
theorem zd_SW_finding_20 : decode zc_SW_finding 20 = .ok (.iload_n 1, 1) := by decide +kernel
theorem zd_SW_finding_21 : decode zc_SW_finding 21 = .ok (.invokevirtual 135, 3) := by decide +kernel
theorem zd_SW_finding_24 : decode zc_SW_finding 24 = .ok (.ifCond .ne 11, 3) := by decide +kernel
theorem zd_SW_finding_27 : decode zc_SW_finding 27 = .ok (.new 136, 3) := by decide +kernel
theorem zd_SW_finding_30 : decode zc_SW_finding 30 = .ok (.dup, 1) := by decide +kernel
theorem zd_SW_finding_31 : decode zc_SW_finding 31 = .ok (.invokespecial 138, 3) := by decide +kernel
theorem zd_SW_finding_34 : decode zc_SW_finding 34 = .ok (.athrow, 1) := by decide +kernel
theorem zd_SW_finding_35 : decode zc_SW_finding 35 = .ok (.iload_n 2, 1) := by decide +kernel
theorem zd_SW_finding_36 : decode zc_SW_finding 36 = .ok (.tableswitch 55 0 2 #[28, 37, 46], 28) := by decide +kernel
theorem zd_SW_finding_64 : decode zc_SW_finding 64 = .ok (.aload_n 0, 1) := by decide +kernel
theorem zd_SW_finding_65 : decode zc_SW_finding 65 = .ok (.getfield 42, 3) := by decide +kernel
theorem zd_SW_finding_68 : decode zc_SW_finding 68 = .ok (.iload_n 1, 1) := by decide +kernel
theorem zd_SW_finding_69 : decode zc_SW_finding 69 = .ok (.invokevirtual 139, 3) := by decide +kernel
theorem zd_SW_finding_72 : decode zc_SW_finding 72 = .ok (.ireturn, 1) := by decide +kernel
theorem zd_SW_finding_73 : decode zc_SW_finding 73 = .ok (.aload_n 0, 1) := by decide +kernel
theorem zd_SW_finding_74 : decode zc_SW_finding 74 = .ok (.getfield 42, 3) := by decide +kernel
theorem zd_SW_finding_77 : decode zc_SW_finding 77 = .ok (.iload_n 1, 1) := by decide +kernel
theorem zd_SW_finding_78 : decode zc_SW_finding 78 = .ok (.invokevirtual 142, 3) := by decide +kernel
theorem zd_SW_finding_81 : decode zc_SW_finding 81 = .ok (.ireturn, 1) := by decide +kernel
theorem zd_SW_finding_82 : decode zc_SW_finding 82 = .ok (.aload_n 0, 1) := by decide +kernel
theorem zd_SW_finding_83 : decode zc_SW_finding 83 = .ok (.getfield 42, 3) := by decide +kernel
theorem zd_SW_finding_86 : decode zc_SW_finding 86 = .ok (.iload_n 1, 1) := by decide +kernel
theorem zd_SW_finding_87 : decode zc_SW_finding 87 = .ok (.invokevirtual 145, 3) := by decide +kernel
theorem zd_SW_finding_90 : decode zc_SW_finding 90 = .ok (.ireturn, 1) := by decide +kernel
theorem zd_SW_finding_91 : decode zc_SW_finding 91 = .ok (.aload_n 0, 1) := by decide +kernel
theorem zd_SW_finding_92 : decode zc_SW_finding 92 = .ok (.getfield 42, 3) := by decide +kernel
theorem zd_SW_finding_95 : decode zc_SW_finding 95 = .ok (.iload_n 1, 1) := by decide +kernel
theorem zd_SW_finding_96 : decode zc_SW_finding 96 = .ok (.invokevirtual 148, 3) := by decide +kernel
theorem zd_SW_finding_99 : decode zc_SW_finding 99 = .ok (.ireturn, 1) := by decide +kernel
theorem zd_SW_block_0 : decode zc_SW_block 0 = .ok (.iload_n 2, 1) := by decide +kernel
theorem zd_SW_block_1 : decode zc_SW_block 1 = .ok (.iconst 3, 1) := by decide +kernel
theorem zd_SW_block_2 : decode zc_SW_block 2 = .ok (.invokestatic 77, 3) := by decide +kernel
theorem zd_SW_block_5 : decode zc_SW_block 5 = .ok (.ifCond .ne 11, 3) := by decide +kernel
theorem zd_SW_block_8 : decode zc_SW_block 8 = .ok (.new 82, 3) := by decide +kernel
theorem zd_SW_block_11 : decode zc_SW_block 11 = .ok (.dup, 1) := by decide +kernel
theorem zd_SW_block_12 : decode zc_SW_block 12 = .ok (.invokespecial 84, 3) := by decide +kernel
theorem zd_SW_block_15 : decode zc_SW_block 15 = .ok (.athrow, 1) := by decide +kernel
theorem zd_SW_block_16 : decode zc_SW_block 16 = .ok (.aload_n 0, 1) := by decide +kernel
theorem zd_SW_block_17 : decode zc_SW_block 17 = .ok (.getfield 51, 3) := by decide +kernel
theorem zd_SW_block_20 : decode zc_SW_block 20 = .ok (.iload_n 1, 1) := by decide +kernel
theorem zd_SW_block_21 : decode zc_SW_block 21 = .ok (.invokevirtual 151, 3) := by decide +kernel
theorem zd_SW_block_24 : decode zc_SW_block 24 = .ok (.istore_n 3, 1) := by decide +kernel
theorem zd_SW_block_25 : decode zc_SW_block 25 = .ok (.iload_n 3, 1) := by decide +kernel
theorem zd_SW_block_26 : decode zc_SW_block 26 = .ok (.iconst (-1), 1) := by decide +kernel
theorem zd_SW_block_27 : decode zc_SW_block 27 = .ok (.if_icmp .ne 11, 3) := by decide +kernel
theorem zd_SW_block_30 : decode zc_SW_block 30 = .ok (.new 136, 3) := by decide +kernel
theorem zd_SW_block_33 : decode zc_SW_block 33 = .ok (.dup, 1) := by decide +kernel
theorem zd_SW_block_34 : decode zc_SW_block 34 = .ok (.invokespecial 138, 3) := by decide +kernel
theorem zd_SW_block_37 : decode zc_SW_block 37 = .ok (.athrow, 1) := by decide +kernel
theorem zd_SW_block_38 : decode zc_SW_block 38 = .ok (.iload_n 2, 1) := by decide +kernel
theorem zd_SW_block_39 : decode zc_SW_block 39 = .ok (.tableswitch 60 0 2 #[25, 34, 43], 25) := by decide +kernel
theorem zd_SW_block_64 : decode zc_SW_block 64 = .ok (.aload_n 0, 1) := by decide +kernel
theorem zd_SW_block_65 : decode zc_SW_block 65 = .ok (.getfield 51, 3) := by decide +kernel
theorem zd_SW_block_68 : decode zc_SW_block 68 = .ok (.iload_n 3, 1) := by decide +kernel
theorem zd_SW_block_69 : decode zc_SW_block 69 = .ok (.invokevirtual 154, 3) := by decide +kernel
theorem zd_SW_block_72 : decode zc_SW_block 72 = .ok (.ireturn, 1) := by decide +kernel
theorem zd_SW_block_73 : decode zc_SW_block 73 = .ok (.aload_n 0, 1) := by decide +kernel
theorem zd_SW_block_74 : decode zc_SW_block 74 = .ok (.getfield 51, 3) := by decide +kernel
theorem zd_SW_block_77 : decode zc_SW_block 77 = .ok (.iload_n 3, 1) := by decide +kernel
theorem zd_SW_block_78 : decode zc_SW_block 78 = .ok (.invokevirtual 155, 3) := by decide +kernel
theorem zd_SW_block_81 : decode zc_SW_block 81 = .ok (.ireturn, 1) := by decide +kernel
theorem zd_SW_block_82 : decode zc_SW_block 82 = .ok (.aload_n 0, 1) := by decide +kernel
theorem zd_SW_block_83 : decode zc_SW_block 83 = .ok (.getfield 51, 3) := by decide +kernel
theorem zd_SW_block_86 : decode zc_SW_block 86 = .ok (.iload_n 3, 1) := by decide +kernel
theorem zd_SW_block_87 : decode zc_SW_block 87 = .ok (.invokevirtual 158, 3) := by decide +kernel
theorem zd_SW_block_90 : decode zc_SW_block 90 = .ok (.ifCond .eq 7, 3) := by decide +kernel
theorem zd_SW_block_93 : decode zc_SW_block 93 = .ok (.iconst 1, 1) := by decide +kernel
theorem zd_SW_block_94 : decode zc_SW_block 94 = .ok (.goto 4, 3) := by decide +kernel
theorem zd_SW_block_97 : decode zc_SW_block 97 = .ok (.iconst 2, 1) := by decide +kernel
theorem zd_SW_block_98 : decode zc_SW_block 98 = .ok (.ireturn, 1) := by decide +kernel
theorem zd_SW_block_99 : decode zc_SW_block 99 = .ok (.aload_n 0, 1) := by decide +kernel
theorem zd_SW_block_100 : decode zc_SW_block 100 = .ok (.getfield 60, 3) := by decide +kernel
theorem zd_SW_block_103 : decode zc_SW_block 103 = .ok (.invokevirtual 161, 3) := by decide +kernel
theorem zd_SW_block_106 : decode zc_SW_block 106 = .ok (.aload_n 0, 1) := by decide +kernel
theorem zd_SW_block_107 : decode zc_SW_block 107 = .ok (.getfield 60, 3) := by decide +kernel
theorem zd_SW_block_110 : decode zc_SW_block 110 = .ok (.iload_n 3, 1) := by decide +kernel
theorem zd_SW_block_111 : decode zc_SW_block 111 = .ok (.invokevirtual 164, 3) := by decide +kernel
theorem zd_SW_block_114 : decode zc_SW_block 114 = .ok (.ireturn, 1) := by decide +kernel
theorem zd_SW_leaks_0 : decode zc_SW_leaks 0 = .ok (.iload_n 1, 1) := by decide +kernel
theorem zd_SW_leaks_1 : decode zc_SW_leaks 1 = .ok (.iconst 1, 1) := by decide +kernel
theorem zd_SW_leaks_2 : decode zc_SW_leaks 2 = .ok (.if_icmp .lt 8, 3) := by decide +kernel
theorem zd_SW_leaks_5 : decode zc_SW_leaks 5 = .ok (.iload_n 1, 1) := by decide +kernel
theorem zd_SW_leaks_6 : decode zc_SW_leaks 6 = .ok (.iconst 4, 1) := by decide +kernel
theorem zd_SW_leaks_7 : decode zc_SW_leaks 7 = .ok (.if_icmp .le 11, 3) := by decide +kernel
theorem zd_SW_leaks_10 : decode zc_SW_leaks 10 = .ok (.new 82, 3) := by decide +kernel
theorem zd_SW_leaks_13 : decode zc_SW_leaks 13 = .ok (.dup, 1) := by decide +kernel
theorem zd_SW_leaks_14 : decode zc_SW_leaks 14 = .ok (.invokespecial 84, 3) := by decide +kernel
theorem zd_SW_leaks_17 : decode zc_SW_leaks 17 = .ok (.athrow, 1) := by decide +kernel
theorem zd_SW_leaks_18 : decode zc_SW_leaks 18 = .ok (.aload_n 0, 1) := by decide +kernel
theorem zd_SW_leaks_19 : decode zc_SW_leaks 19 = .ok (.getfield 60, 3) := by decide +kernel
theorem zd_SW_leaks_22 : decode zc_SW_leaks 22 = .ok (.invokevirtual 161, 3) := by decide +kernel
theorem zd_SW_leaks_25 : decode zc_SW_leaks 25 = .ok (.aload_n 0, 1) := by decide +kernel
theorem zd_SW_leaks_26 : decode zc_SW_leaks 26 = .ok (.getfield 60, 3) := by decide +kernel
theorem zd_SW_leaks_29 : decode zc_SW_leaks 29 = .ok (.iload_n 1, 1) := by decide +kernel
theorem zd_SW_leaks_30 : decode zc_SW_leaks 30 = .ok (.invokevirtual 167, 3) := by decide +kernel
theorem zd_SW_leaks_33 : decode zc_SW_leaks 33 = .ok (.ireturn, 1) := by decide +kernel
