abbrev zc_SW_init : ByteArray := prog_1_method_1_code
def zy_SW_init : MethodName := ⟨zR_SW, "<init>", "()V"⟩
theorem zic_SW_init : Cond.code zy_SW_init zc_SW_init 1 none ∈ zz_WS := zz_in 71 (by decide +kernel) rfl
theorem zii_SW_init : Cond.instanceMethod zy_SW_init ∈ zz_WS := zz_in 70 (by decide +kernel) rfl
theorem zij_SW_init : Cond.initialized zR_SW ∈ zz_WS := zz_in 48 (by decide +kernel) rfl
theorem zik_SW_init : Cond.instantiable zR_SW 8 ∈ zz_WS := zz_in 68 (by decide +kernel) rfl
theorem zd_SW_init_0 : decode zc_SW_init 0 = .ok (.aload_n 0, 1) := by decide +kernel
theorem zd_SW_init_1 : decode zc_SW_init 1 = .ok (.invokespecial 1, 3) := by decide +kernel
theorem zd_SW_init_4 : decode zc_SW_init 4 = .ok (.aload_n 0, 1) := by decide +kernel
theorem zd_SW_init_5 : decode zc_SW_init 5 = .ok (.new 7, 3) := by decide +kernel
theorem zd_SW_init_8 : decode zc_SW_init 8 = .ok (.dup, 1) := by decide +kernel
theorem zd_SW_init_9 : decode zc_SW_init 9 = .ok (.invokespecial 9, 3) := by decide +kernel
theorem zd_SW_init_12 : decode zc_SW_init 12 = .ok (.putfield 10, 3) := by decide +kernel
theorem zd_SW_init_15 : decode zc_SW_init 15 = .ok (.aload_n 0, 1) := by decide +kernel
theorem zd_SW_init_16 : decode zc_SW_init 16 = .ok (.new 16, 3) := by decide +kernel
theorem zd_SW_init_19 : decode zc_SW_init 19 = .ok (.dup, 1) := by decide +kernel
theorem zd_SW_init_20 : decode zc_SW_init 20 = .ok (.invokespecial 18, 3) := by decide +kernel
theorem zd_SW_init_23 : decode zc_SW_init 23 = .ok (.putfield 19, 3) := by decide +kernel
theorem zd_SW_init_26 : decode zc_SW_init 26 = .ok (.aload_n 0, 1) := by decide +kernel
theorem zd_SW_init_27 : decode zc_SW_init 27 = .ok (.new 23, 3) := by decide +kernel
theorem zd_SW_init_30 : decode zc_SW_init 30 = .ok (.dup, 1) := by decide +kernel
theorem zd_SW_init_31 : decode zc_SW_init 31 = .ok (.invokespecial 25, 3) := by decide +kernel
theorem zd_SW_init_34 : decode zc_SW_init 34 = .ok (.putfield 26, 3) := by decide +kernel
theorem zd_SW_init_37 : decode zc_SW_init 37 = .ok (.aload_n 0, 1) := by decide +kernel
theorem zd_SW_init_38 : decode zc_SW_init 38 = .ok (.new 30, 3) := by decide +kernel
theorem zd_SW_init_41 : decode zc_SW_init 41 = .ok (.dup, 1) := by decide +kernel
theorem zd_SW_init_42 : decode zc_SW_init 42 = .ok (.aload_n 0, 1) := by decide +kernel
theorem zd_SW_init_43 : decode zc_SW_init 43 = .ok (.getfield 26, 3) := by decide +kernel
theorem zd_SW_init_46 : decode zc_SW_init 46 = .ok (.invokespecial 32, 3) := by decide +kernel
theorem zd_SW_init_49 : decode zc_SW_init 49 = .ok (.putfield 35, 3) := by decide +kernel
theorem zd_SW_init_52 : decode zc_SW_init 52 = .ok (.aload_n 0, 1) := by decide +kernel
theorem zd_SW_init_53 : decode zc_SW_init 53 = .ok (.new 39, 3) := by decide +kernel
theorem zd_SW_init_56 : decode zc_SW_init 56 = .ok (.dup, 1) := by decide +kernel
theorem zd_SW_init_57 : decode zc_SW_init 57 = .ok (.invokespecial 41, 3) := by decide +kernel
theorem zd_SW_init_60 : decode zc_SW_init 60 = .ok (.putfield 42, 3) := by decide +kernel
theorem zd_SW_init_63 : decode zc_SW_init 63 = .ok (.aload_n 0, 1) := by decide +kernel
theorem zd_SW_init_64 : decode zc_SW_init 64 = .ok (.new 46, 3) := by decide +kernel
theorem zd_SW_init_67 : decode zc_SW_init 67 = .ok (.dup, 1) := by decide +kernel
theorem zd_SW_init_68 : decode zc_SW_init 68 = .ok (.aload_n 0, 1) := by decide +kernel
theorem zd_SW_init_69 : decode zc_SW_init 69 = .ok (.getfield 10, 3) := by decide +kernel
theorem zd_SW_init_72 : decode zc_SW_init 72 = .ok (.invokespecial 48, 3) := by decide +kernel
theorem zd_SW_init_75 : decode zc_SW_init 75 = .ok (.putfield 51, 3) := by decide +kernel
theorem zd_SW_init_78 : decode zc_SW_init 78 = .ok (.aload_n 0, 1) := by decide +kernel
theorem zd_SW_init_79 : decode zc_SW_init 79 = .ok (.new 55, 3) := by decide +kernel
theorem zd_SW_init_82 : decode zc_SW_init 82 = .ok (.dup, 1) := by decide +kernel
theorem zd_SW_init_83 : decode zc_SW_init 83 = .ok (.aload_n 0, 1) := by decide +kernel
theorem zd_SW_init_84 : decode zc_SW_init 84 = .ok (.getfield 10, 3) := by decide +kernel
theorem zd_SW_init_87 : decode zc_SW_init 87 = .ok (.aload_n 0, 1) := by decide +kernel
theorem zd_SW_init_88 : decode zc_SW_init 88 = .ok (.getfield 19, 3) := by decide +kernel
theorem zd_SW_init_91 : decode zc_SW_init 91 = .ok (.aload_n 0, 1) := by decide +kernel
theorem zd_SW_init_92 : decode zc_SW_init 92 = .ok (.getfield 51, 3) := by decide +kernel
theorem zd_SW_init_95 : decode zc_SW_init 95 = .ok (.invokespecial 57, 3) := by decide +kernel
theorem zd_SW_init_98 : decode zc_SW_init 98 = .ok (.putfield 60, 3) := by decide +kernel
theorem zd_SW_init_101 : decode zc_SW_init 101 = .ok (.aload_n 0, 1) := by decide +kernel
theorem zd_SW_init_102 : decode zc_SW_init 102 = .ok (.new 64, 3) := by decide +kernel
theorem zd_SW_init_105 : decode zc_SW_init 105 = .ok (.dup, 1) := by decide +kernel
theorem zd_SW_init_106 : decode zc_SW_init 106 = .ok (.aload_n 0, 1) := by decide +kernel
theorem zd_SW_init_107 : decode zc_SW_init 107 = .ok (.getfield 10, 3) := by decide +kernel
theorem zd_SW_init_110 : decode zc_SW_init 110 = .ok (.aload_n 0, 1) := by decide +kernel
theorem zd_SW_init_111 : decode zc_SW_init 111 = .ok (.getfield 19, 3) := by decide +kernel
theorem zd_SW_init_114 : decode zc_SW_init 114 = .ok (.aload_n 0, 1) := by decide +kernel
theorem zd_SW_init_115 : decode zc_SW_init 115 = .ok (.getfield 26, 3) := by decide +kernel
theorem zd_SW_init_118 : decode zc_SW_init 118 = .ok (.aload_n 0, 1) := by decide +kernel
theorem zd_SW_init_119 : decode zc_SW_init 119 = .ok (.getfield 35, 3) := by decide +kernel
theorem zd_SW_init_122 : decode zc_SW_init 122 = .ok (.aload_n 0, 1) := by decide +kernel
theorem zd_SW_init_123 : decode zc_SW_init 123 = .ok (.getfield 42, 3) := by decide +kernel
theorem zd_SW_init_126 : decode zc_SW_init 126 = .ok (.aload_n 0, 1) := by decide +kernel
theorem zd_SW_init_127 : decode zc_SW_init 127 = .ok (.getfield 51, 3) := by decide +kernel
theorem zd_SW_init_130 : decode zc_SW_init 130 = .ok (.invokespecial 66, 3) := by decide +kernel
theorem zd_SW_init_133 : decode zc_SW_init 133 = .ok (.putfield 69, 3) := by decide +kernel
theorem zd_SW_init_136 : decode zc_SW_init 136 = .ok (.return_, 1) := by decide +kernel
theorem zio_SW_init : Cond.methodLink zR_SW 1 objectInit ∈ zz_WS := zz_in 72 (by decide +kernel) rfl
theorem zin_SW_init_7 : Cond.classLink zR_SW 7 zR_Me ∈ zz_WS := zz_in 75 (by decide +kernel) rfl
theorem zim_SW_init_9 : Cond.methodLink zR_SW 9 zy_Me_init ∈ zz_WS := zz_in 77 (by decide +kernel) rfl
theorem zif_SW_init_10 : Cond.fieldLink zR_SW 10 zR_SW "bytes" "LShadowWarden$Memory;" ∈ zz_WS := zz_in 272 (by decide +kernel) rfl
theorem zin_SW_init_16 : Cond.classLink zR_SW 16 zR_Re ∈ zz_WS := zz_in 93 (by decide +kernel) rfl
theorem zim_SW_init_18 : Cond.methodLink zR_SW 18 zy_Re_init ∈ zz_WS := zz_in 95 (by decide +kernel) rfl
theorem zif_SW_init_19 : Cond.fieldLink zR_SW 19 zR_SW "registers" "LShadowWarden$Registers;" ∈ zz_WS := zz_in 273 (by decide +kernel) rfl
theorem zin_SW_init_23 : Cond.classLink zR_SW 23 zR_Pr ∈ zz_WS := zz_in 110 (by decide +kernel) rfl
theorem zim_SW_init_25 : Cond.methodLink zR_SW 25 zy_Pr_init ∈ zz_WS := zz_in 112 (by decide +kernel) rfl
theorem zif_SW_init_26 : Cond.fieldLink zR_SW 26 zR_SW "program" "LShadowWarden$Program;" ∈ zz_WS := zz_in 274 (by decide +kernel) rfl
theorem zin_SW_init_30 : Cond.classLink zR_SW 30 zR_Pi ∈ zz_WS := zz_in 132 (by decide +kernel) rfl
theorem zim_SW_init_32 : Cond.methodLink zR_SW 32 zy_Pi_init ∈ zz_WS := zz_in 134 (by decide +kernel) rfl
theorem zif_SW_init_35 : Cond.fieldLink zR_SW 35 zR_SW "pieces" "LShadowWarden$Pieces;" ∈ zz_WS := zz_in 275 (by decide +kernel) rfl
theorem zin_SW_init_39 : Cond.classLink zR_SW 39 zR_Fi ∈ zz_WS := zz_in 151 (by decide +kernel) rfl
theorem zim_SW_init_41 : Cond.methodLink zR_SW 41 zy_Fi_init ∈ zz_WS := zz_in 153 (by decide +kernel) rfl
theorem zif_SW_init_42 : Cond.fieldLink zR_SW 42 zR_SW "findings" "LShadowWarden$Findings;" ∈ zz_WS := zz_in 276 (by decide +kernel) rfl
theorem zin_SW_init_46 : Cond.classLink zR_SW 46 zR_He ∈ zz_WS := zz_in 173 (by decide +kernel) rfl
theorem zim_SW_init_48 : Cond.methodLink zR_SW 48 zy_He_init ∈ zz_WS := zz_in 175 (by decide +kernel) rfl
theorem zif_SW_init_51 : Cond.fieldLink zR_SW 51 zR_SW "heap" "LShadowWarden$Heap;" ∈ zz_WS := zz_in 277 (by decide +kernel) rfl
theorem zin_SW_init_55 : Cond.classLink zR_SW 55 zR_LS ∈ zz_WS := zz_in 207 (by decide +kernel) rfl
theorem zim_SW_init_57 : Cond.methodLink zR_SW 57 zy_LS_init ∈ zz_WS := zz_in 209 (by decide +kernel) rfl
theorem zif_SW_init_60 : Cond.fieldLink zR_SW 60 zR_SW "scan" "LShadowWarden$LeakScan;" ∈ zz_WS := zz_in 278 (by decide +kernel) rfl
theorem zin_SW_init_64 : Cond.classLink zR_SW 64 zR_Ma ∈ zz_WS := zz_in 232 (by decide +kernel) rfl
theorem zim_SW_init_66 : Cond.methodLink zR_SW 66 zy_Ma_init ∈ zz_WS := zz_in 234 (by decide +kernel) rfl
theorem zif_SW_init_69 : Cond.fieldLink zR_SW 69 zR_SW "machine" "LShadowWarden$Machine;" ∈ zz_WS := zz_in 279 (by decide +kernel) rfl
def zSW0 (outE outG : St) : St := fun v => match v with
  | 0 => outE 0
  | 1 => outE 1
  | 2 => outE 2
  | 3 => outG 0
  | 4 => outG 1
  | 29 => (zz_put (fun _ _ => 0) 31 0 1) 29
  | 30 => (zz_put (fun _ _ => 0) 31 0 1) 30
  | 31 => (zz_put (fun _ _ => 0) 31 0 1) 31
  | 32 => (zz_put (fun _ _ => 0) 31 0 1) 32
  | 33 => (zz_put (fun _ _ => 0) 31 0 1) 33
  | _ => fun _ => 0
def zm_SW_init : Room := { frames := 2, cells := 30, slots := 1187, locals := 41 }
