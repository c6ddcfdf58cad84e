abbrev zc_Ma_position : ByteArray := prog_6_method_4_code
def zy_Ma_position : MethodName := ⟨zR_Ma, "position", "()I"⟩
def zm_Ma_position : Room := { frames := 0, cells := 0, slots := 0, locals := 0 }
abbrev zc_Ma_isStopped : ByteArray := prog_6_method_5_code
def zy_Ma_isStopped : MethodName := ⟨zR_Ma, "isStopped", "()Z"⟩
def zm_Ma_isStopped : Room := { frames := 0, cells := 0, slots := 0, locals := 0 }
abbrev zc_Ma_allDone : ByteArray := prog_6_method_7_code
def zy_Ma_allDone : MethodName := ⟨zR_Ma, "allDone", "()I"⟩
def zm_Ma_allDone : Room := { frames := 0, cells := 0, slots := 0, locals := 0 }
abbrev zc_Fi_size : ByteArray := prog_2_method_8_code
def zy_Fi_size : MethodName := ⟨zR_Fi, "size", "()I"⟩
def zm_Fi_size : Room := { frames := 0, cells := 0, slots := 0, locals := 0 }
abbrev zc_Fi_allTimes : ByteArray := prog_2_method_9_code
def zy_Fi_allTimes : MethodName := ⟨zR_Fi, "allTimes", "()I"⟩
def zm_Fi_allTimes : Room := { frames := 0, cells := 0, slots := 0, locals := 0 }
abbrev zc_He_there : ByteArray := prog_3_method_16_code
def zy_He_there : MethodName := ⟨zR_He, "there", "()I"⟩
def zm_He_there : Room := { frames := 0, cells := 0, slots := 0, locals := 0 }
abbrev zc_He_isLive : ByteArray := prog_3_method_12_code
def zy_He_isLive : MethodName := ⟨zR_He, "isLive", "(I)Z"⟩
def zm_He_isLive : Room := { frames := 0, cells := 0, slots := 0, locals := 0 }
abbrev zc_He_resting : ByteArray := prog_3_method_17_code
def zy_He_resting : MethodName := ⟨zR_He, "resting", "()I"⟩
def zm_He_resting : Room := { frames := 1, cells := 0, slots := 0, locals := 21 }
abbrev zc_He_everGot : ByteArray := prog_3_method_18_code
def zy_He_everGot : MethodName := ⟨zR_He, "everGot", "()I"⟩
def zm_He_everGot : Room := { frames := 0, cells := 0, slots := 0, locals := 0 }
abbrev zc_Pi_everTranslated : ByteArray := prog_8_method_6_code
def zy_Pi_everTranslated : MethodName := ⟨zR_Pi, "everTranslated", "()I"⟩
def zm_Pi_everTranslated : Room := { frames := 0, cells := 0, slots := 0, locals := 0 }
abbrev zc_Pi_there : ByteArray := prog_8_method_7_code
def zy_Pi_there : MethodName := ⟨zR_Pi, "there", "()I"⟩
def zm_Pi_there : Room := { frames := 0, cells := 0, slots := 0, locals := 0 }
abbrev zc_SW_count : ByteArray := prog_1_method_11_code
def zy_SW_count : MethodName := ⟨zR_SW, "count", "(I)I"⟩
def zm_SW_count : Room := { frames := 2, cells := 0, slots := 0, locals := 43 }
abbrev zc_SW_isWithin : ByteArray := prog_1_method_12_code
def zy_SW_isWithin : MethodName := ⟨zR_SW, "isWithin", "(II)Z"⟩
def zm_SW_isWithin : Room := { frames := 0, cells := 0, slots := 0, locals := 0 }
abbrev zc_Me_has : ByteArray := prog_7_method_2_code
def zy_Me_has : MethodName := ⟨zR_Me, "has", "(II)Z"⟩
def zm_Me_has : Room := { frames := 0, cells := 0, slots := 0, locals := 0 }
abbrev zc_Me_value : ByteArray := prog_7_method_3_code
def zy_Me_value : MethodName := ⟨zR_Me, "value", "(II)I"⟩
def zm_Me_value : Room := { frames := 0, cells := 0, slots := 0, locals := 0 }
abbrev zc_Me_known : ByteArray := prog_7_method_4_code
def zy_Me_known : MethodName := ⟨zR_Me, "known", "(II)I"⟩
def zm_Me_known : Room := { frames := 0, cells := 0, slots := 0, locals := 0 }
abbrev zc_Me_firstClosed : ByteArray := prog_7_method_5_code
def zy_Me_firstClosed : MethodName := ⟨zR_Me, "firstClosed", "(II)I"⟩
def zm_Me_firstClosed : Room := { frames := 0, cells := 0, slots := 0, locals := 0 }
abbrev zc_Me_put : ByteArray := prog_7_method_6_code
def zy_Me_put : MethodName := ⟨zR_Me, "put", "(IIII)V"⟩
def zm_Me_put : Room := { frames := 0, cells := 0, slots := 0, locals := 0 }
abbrev zc_Me_forget : ByteArray := prog_7_method_7_code
def zy_Me_forget : MethodName := ⟨zR_Me, "forget", "(IIZ)V"⟩
def zm_Me_forget : Room := { frames := 0, cells := 0, slots := 0, locals := 0 }
abbrev zc_Me_isUsableWord : ByteArray := prog_7_method_8_code
def zy_Me_isUsableWord : MethodName := ⟨zR_Me, "isUsableWord", "(I)Z"⟩
def zm_Me_isUsableWord : Room := { frames := 1, cells := 0, slots := 0, locals := 24 }
abbrev zc_Re_has : ByteArray := prog_10_method_2_code
def zy_Re_has : MethodName := ⟨zR_Re, "has", "(I)Z"⟩
def zm_Re_has : Room := { frames := 0, cells := 0, slots := 0, locals := 0 }
abbrev zc_Re_clear : ByteArray := prog_10_method_3_code
def zy_Re_clear : MethodName := ⟨zR_Re, "clear", "()V"⟩
def zm_Re_clear : Room := { frames := 0, cells := 0, slots := 0, locals := 0 }
abbrev zc_Re_value : ByteArray := prog_10_method_4_code
def zy_Re_value : MethodName := ⟨zR_Re, "value", "(I)I"⟩
def zm_Re_value : Room := { frames := 0, cells := 0, slots := 0, locals := 0 }
abbrev zc_Re_known : ByteArray := prog_10_method_5_code
def zy_Re_known : MethodName := ⟨zR_Re, "known", "(I)I"⟩
def zm_Re_known : Room := { frames := 0, cells := 0, slots := 0, locals := 0 }
abbrev zc_Re_isKnown : ByteArray := prog_10_method_6_code
def zy_Re_isKnown : MethodName := ⟨zR_Re, "isKnown", "(I)Z"⟩
def zm_Re_isKnown : Room := { frames := 0, cells := 0, slots := 0, locals := 0 }
abbrev zc_Re_put : ByteArray := prog_10_method_7_code
def zy_Re_put : MethodName := ⟨zR_Re, "put", "(III)V"⟩
def zm_Re_put : Room := { frames := 0, cells := 0, slots := 0, locals := 0 }
abbrev zc_Pr_has : ByteArray := prog_9_method_2_code
def zy_Pr_has : MethodName := ⟨zR_Pr, "has", "(I)Z"⟩
def zm_Pr_has : Room := { frames := 0, cells := 0, slots := 0, locals := 0 }
abbrev zc_Pr_write : ByteArray := prog_9_method_3_code
def zy_Pr_write : MethodName := ⟨zR_Pr, "write", "(IIIIII)V"⟩
def zm_Pr_write : Room := { frames := 0, cells := 0, slots := 0, locals := 0 }
abbrev zc_Pr_op : ByteArray := prog_9_method_4_code
def zy_Pr_op : MethodName := ⟨zR_Pr, "op", "(I)I"⟩
def zm_Pr_op : Room := { frames := 0, cells := 0, slots := 0, locals := 0 }
abbrev zc_Pr_d : ByteArray := prog_9_method_5_code
def zy_Pr_d : MethodName := ⟨zR_Pr, "d", "(I)I"⟩
def zm_Pr_d : Room := { frames := 0, cells := 0, slots := 0, locals := 0 }
abbrev zc_Pr_a : ByteArray := prog_9_method_6_code
def zy_Pr_a : MethodName := ⟨zR_Pr, "a", "(I)I"⟩
def zm_Pr_a : Room := { frames := 0, cells := 0, slots := 0, locals := 0 }
abbrev zc_Pr_b : ByteArray := prog_9_method_7_code
def zy_Pr_b : MethodName := ⟨zR_Pr, "b", "(I)I"⟩
def zm_Pr_b : Room := { frames := 0, cells := 0, slots := 0, locals := 0 }
abbrev zc_Pr_n : ByteArray := prog_9_method_8_code
def zy_Pr_n : MethodName := ⟨zR_Pr, "n", "(I)I"⟩
def zm_Pr_n : Room := { frames := 0, cells := 0, slots := 0, locals := 0 }
abbrev zc_Pr_endsPiece : ByteArray := prog_9_method_9_code
def zy_Pr_endsPiece : MethodName := ⟨zR_Pr, "endsPiece", "(I)Z"⟩
def zm_Pr_endsPiece : Room := { frames := 0, cells := 0, slots := 0, locals := 0 }
abbrev zc_Pi_putAway : ByteArray := prog_8_method_2_code
def zy_Pi_putAway : MethodName := ⟨zR_Pi, "putAway", "()V"⟩
def zm_Pi_putAway : Room := { frames := 0, cells := 0, slots := 0, locals := 0 }
abbrev zc_Pi_lengthFrom : ByteArray := prog_8_method_4_code
def zy_Pi_lengthFrom : MethodName := ⟨zR_Pi, "lengthFrom", "(I)I"⟩
def zm_Pi_lengthFrom : Room := { frames := 1, cells := 0, slots := 0, locals := 21 }
abbrev zc_Pi_reach : ByteArray := prog_8_method_3_code
def zy_Pi_reach : MethodName := ⟨zR_Pi, "reach", "(I)V"⟩
def zm_Pi_reach : Room := { frames := 2, cells := 0, slots := 0, locals := 43 }
abbrev zc_Pi_throwAwayWith : ByteArray := prog_8_method_5_code
def zy_Pi_throwAwayWith : MethodName := ⟨zR_Pi, "throwAwayWith", "(I)V"⟩
def zm_Pi_throwAwayWith : Room := { frames := 0, cells := 0, slots := 0, locals := 0 }
abbrev zc_Fi_note : ByteArray := prog_2_method_2_code
def zy_Fi_note : MethodName := ⟨zR_Fi, "note", "(III)V"⟩
def zm_Fi_note : Room := { frames := 0, cells := 0, slots := 0, locals := 0 }
abbrev zc_Fi_has : ByteArray := prog_2_method_3_code
def zy_Fi_has : MethodName := ⟨zR_Fi, "has", "(I)Z"⟩
def zm_Fi_has : Room := { frames := 0, cells := 0, slots := 0, locals := 0 }
abbrev zc_Fi_kind : ByteArray := prog_2_method_4_code
def zy_Fi_kind : MethodName := ⟨zR_Fi, "kind", "(I)I"⟩
def zm_Fi_kind : Room := { frames := 0, cells := 0, slots := 0, locals := 0 }
abbrev zc_Fi_instruction : ByteArray := prog_2_method_5_code
def zy_Fi_instruction : MethodName := ⟨zR_Fi, "instruction", "(I)I"⟩
def zm_Fi_instruction : Room := { frames := 0, cells := 0, slots := 0, locals := 0 }
abbrev zc_Fi_address : ByteArray := prog_2_method_6_code
def zy_Fi_address : MethodName := ⟨zR_Fi, "address", "(I)I"⟩
def zm_Fi_address : Room := { frames := 0, cells := 0, slots := 0, locals := 0 }
abbrev zc_Fi_times : ByteArray := prog_2_method_7_code
def zy_Fi_times : MethodName := ⟨zR_Fi, "times", "(I)I"⟩
def zm_Fi_times : Room := { frames := 0, cells := 0, slots := 0, locals := 0 }
abbrev zc_He_isFree : ByteArray := prog_3_method_4_code
def zy_He_isFree : MethodName := ⟨zR_He, "isFree", "(II)Z"⟩
def zm_He_isFree : Room := { frames := 0, cells := 0, slots := 0, locals := 0 }
abbrev zc_He_placeFor : ByteArray := prog_3_method_3_code
def zy_He_placeFor : MethodName := ⟨zR_He, "placeFor", "(I)I"⟩
def zm_He_placeFor : Room := { frames := 1, cells := 0, slots := 0, locals := 23 }
abbrev zc_He_add : ByteArray := prog_3_method_5_code
def zy_He_add : MethodName := ⟨zR_He, "add", "(III)V"⟩
def zm_He_add : Room := { frames := 0, cells := 0, slots := 0, locals := 0 }
abbrev zc_He_ask : ByteArray := prog_3_method_2_code
def zy_He_ask : MethodName := ⟨zR_He, "ask", "(I)I"⟩
def zm_He_ask : Room := { frames := 2, cells := 0, slots := 0, locals := 45 }
abbrev zc_He_longestResting : ByteArray := prog_3_method_7_code
def zy_He_longestResting : MethodName := ⟨zR_He, "longestResting", "()I"⟩
def zm_He_longestResting : Room := { frames := 1, cells := 0, slots := 0, locals := 21 }
abbrev zc_He_remove : ByteArray := prog_3_method_8_code
def zy_He_remove : MethodName := ⟨zR_He, "remove", "(I)V"⟩
def zm_He_remove : Room := { frames := 0, cells := 0, slots := 0, locals := 0 }
abbrev zc_He_giveBack : ByteArray := prog_3_method_6_code
def zy_He_giveBack : MethodName := ⟨zR_He, "giveBack", "(I)V"⟩
def zm_He_giveBack : Room := { frames := 2, cells := 0, slots := 0, locals := 43 }
abbrev zc_He_indexOfNumber : ByteArray := prog_3_method_9_code
def zy_He_indexOfNumber : MethodName := ⟨zR_He, "indexOfNumber", "(I)I"⟩
def zm_He_indexOfNumber : Room := { frames := 0, cells := 0, slots := 0, locals := 0 }
abbrev zc_He_indexOfAddress : ByteArray := prog_3_method_10_code
def zy_He_indexOfAddress : MethodName := ⟨zR_He, "indexOfAddress", "(I)I"⟩
def zm_He_indexOfAddress : Room := { frames := 0, cells := 0, slots := 0, locals := 0 }
abbrev zc_He_indexOfLiveAround : ByteArray := prog_3_method_11_code
def zy_He_indexOfLiveAround : MethodName := ⟨zR_He, "indexOfLiveAround", "(I)I"⟩
def zm_He_indexOfLiveAround : Room := { frames := 1, cells := 0, slots := 0, locals := 21 }
abbrev zc_He_address : ByteArray := prog_3_method_13_code
def zy_He_address : MethodName := ⟨zR_He, "address", "(I)I"⟩
def zm_He_address : Room := { frames := 0, cells := 0, slots := 0, locals := 0 }
abbrev zc_He_size : ByteArray := prog_3_method_14_code
def zy_He_size : MethodName := ⟨zR_He, "size", "(I)I"⟩
def zm_He_size : Room := { frames := 0, cells := 0, slots := 0, locals := 0 }
abbrev zc_He_end : ByteArray := prog_3_method_15_code
def zy_He_end : MethodName := ⟨zR_He, "end", "(I)I"⟩
def zm_He_end : Room := { frames := 0, cells := 0, slots := 0, locals := 0 }
abbrev zc_LS_takes : ByteArray := prog_5_method_8_code
def zy_LS_takes : MethodName := ⟨zR_LS, "takes", "(III)Z"⟩
def zm_LS_takes : Room := { frames := 1, cells := 0, slots := 0, locals := 21 }
abbrev zc_LS_follow : ByteArray := prog_5_method_7_code
def zy_LS_follow : MethodName := ⟨zR_LS, "follow", "(II)V"⟩
def zm_LS_follow : Room := { frames := 2, cells := 0, slots := 0, locals := 44 }
abbrev zc_LS_followWords : ByteArray := prog_5_method_6_code
def zy_LS_followWords : MethodName := ⟨zR_LS, "followWords", "(III)V"⟩
def zm_LS_followWords : Room := { frames := 3, cells := 0, slots := 0, locals := 67 }
abbrev zc_LS_followAll : ByteArray := prog_5_method_5_code
def zy_LS_followAll : MethodName := ⟨zR_LS, "followAll", "(I)V"⟩
def zm_LS_followAll : Room := { frames := 4, cells := 0, slots := 0, locals := 91 }
abbrev zc_LS_loseWithAllBehind : ByteArray := prog_5_method_9_code
def zy_LS_loseWithAllBehind : MethodName := ⟨zR_LS, "loseWithAllBehind", "(I)V"⟩
def zm_LS_loseWithAllBehind : Room := { frames := 4, cells := 0, slots := 0, locals := 91 }
abbrev zc_LS_make : ByteArray := prog_5_method_2_code
def zy_LS_make : MethodName := ⟨zR_LS, "make", "()V"⟩
def zm_LS_make : Room := { frames := 5, cells := 0, slots := 0, locals := 113 }
abbrev zc_LS_verdict : ByteArray := prog_5_method_3_code
def zy_LS_verdict : MethodName := ⟨zR_LS, "verdict", "(I)I"⟩
def zm_LS_verdict : Room := { frames := 0, cells := 0, slots := 0, locals := 0 }
abbrev zc_LS_howMany : ByteArray := prog_5_method_4_code
def zy_LS_howMany : MethodName := ⟨zR_LS, "howMany", "(I)I"⟩
def zm_LS_howMany : Room := { frames := 1, cells := 0, slots := 0, locals := 20 }
abbrev zc_Ma_beginAt : ByteArray := prog_6_method_2_code
def zy_Ma_beginAt : MethodName := ⟨zR_Ma, "beginAt", "(I)V"⟩
def zm_Ma_beginAt : Room := { frames := 1, cells := 0, slots := 0, locals := 21 }
abbrev zc_Mt_floorMod : ByteArray := prog_17_method_50_code
def zy_Mt_floorMod : MethodName := ⟨zR_Mt, "floorMod", "(II)I"⟩
def zm_Mt_floorMod : Room := { frames := 0, cells := 0, slots := 0, locals := 0 }
abbrev zc_Ma_answer : ByteArray := prog_6_method_10_code
def zy_Ma_answer : MethodName := ⟨zR_Ma, "answer", "(II)V"⟩
def zm_Ma_answer : Room := { frames := 1, cells := 0, slots := 0, locals := 23 }
abbrev zc_Kn_unspoiled : ByteArray := prog_4_method_2_code
def zy_Kn_unspoiled : MethodName := ⟨zR_Kn, "unspoiled", "(I)I"⟩
def zm_Kn_unspoiled : Room := { frames := 0, cells := 0, slots := 0, locals := 0 }
abbrev zc_Kn_bytesThatAre : ByteArray := prog_4_method_4_code
def zy_Kn_bytesThatAre : MethodName := ⟨zR_Kn, "bytesThatAre", "(II)I"⟩
def zm_Kn_bytesThatAre : Room := { frames := 0, cells := 0, slots := 0, locals := 0 }
abbrev zc_Kn_decided : ByteArray := prog_4_method_3_code
def zy_Kn_decided : MethodName := ⟨zR_Kn, "decided", "(IIIII)I"⟩
def zm_Kn_decided : Room := { frames := 1, cells := 0, slots := 0, locals := 23 }
abbrev zc_Ma_calculate : ByteArray := prog_6_method_9_code
def zy_Ma_calculate : MethodName := ⟨zR_Ma, "calculate", "(I)V"⟩
def zm_Ma_calculate : Room := { frames := 2, cells := 0, slots := 0, locals := 47 }
abbrev zc_Ma_noteClosed : ByteArray := prog_6_method_14_code
def zy_Ma_noteClosed : MethodName := ⟨zR_Ma, "noteClosed", "(III)V"⟩
def zm_Ma_noteClosed : Room := { frames := 1, cells := 0, slots := 0, locals := 24 }
abbrev zc_Ma_load : ByteArray := prog_6_method_12_code
def zy_Ma_load : MethodName := ⟨zR_Ma, "load", "(II)V"⟩
def zm_Ma_load : Room := { frames := 2, cells := 0, slots := 0, locals := 48 }
abbrev zc_Ma_store : ByteArray := prog_6_method_13_code
def zy_Ma_store : MethodName := ⟨zR_Ma, "store", "(II)V"⟩
def zm_Ma_store : Room := { frames := 2, cells := 0, slots := 0, locals := 48 }
abbrev zc_Ma_useMemory : ByteArray := prog_6_method_11_code
def zy_Ma_useMemory : MethodName := ⟨zR_Ma, "useMemory", "(I)V"⟩
def zm_Ma_useMemory : Room := { frames := 3, cells := 0, slots := 0, locals := 72 }
abbrev zc_Ma_noteUnknown : ByteArray := prog_6_method_16_code
def zy_Ma_noteUnknown : MethodName := ⟨zR_Ma, "noteUnknown", "(Z)V"⟩
def zm_Ma_noteUnknown : Room := { frames := 1, cells := 0, slots := 0, locals := 24 }
abbrev zc_Ma_jump : ByteArray := prog_6_method_15_code
def zy_Ma_jump : MethodName := ⟨zR_Ma, "jump", "(I)V"⟩
def zm_Ma_jump : Room := { frames := 2, cells := 0, slots := 0, locals := 46 }
abbrev zc_Ma_ask : ByteArray := prog_6_method_17_code
def zy_Ma_ask : MethodName := ⟨zR_Ma, "ask", "()V"⟩
def zm_Ma_ask : Room := { frames := 3, cells := 0, slots := 0, locals := 68 }
abbrev zc_Ma_give : ByteArray := prog_6_method_18_code
def zy_Ma_give : MethodName := ⟨zR_Ma, "give", "()V"⟩
def zm_Ma_give : Room := { frames := 3, cells := 0, slots := 0, locals := 64 }
abbrev zc_Ma_step : ByteArray := prog_6_method_8_code
def zy_Ma_step : MethodName := ⟨zR_Ma, "step", "()V"⟩
def zm_Ma_step : Room := { frames := 4, cells := 0, slots := 0, locals := 95 }
abbrev zc_Ma_perform : ByteArray := prog_6_method_3_code
def zy_Ma_perform : MethodName := ⟨zR_Ma, "perform", "(I)I"⟩
def zm_Ma_perform : Room := { frames := 5, cells := 0, slots := 0, locals := 116 }
abbrev zc_Ma_hasFaulted : ByteArray := prog_6_method_6_code
def zy_Ma_hasFaulted : MethodName := ⟨zR_Ma, "hasFaulted", "()Z"⟩
def zm_Ma_hasFaulted : Room := { frames := 0, cells := 0, slots := 0, locals := 0 }
theorem zkw_Ma_position : zz_kv zy_Ma_position zc_Ma_position 1 (some .int) 0 := ⟨zz_in 302 (by decide +kernel) rfl, zz_in 303 (by decide +kernel) rfl, zz_in 56 (by decide +kernel) rfl, zz_in 304 (by decide +kernel) rfl, by decide +kernel, by decide +kernel, by decide +kernel⟩
theorem zkw_Ma_isStopped : zz_kv zy_Ma_isStopped zc_Ma_isStopped 1 (some .boolean) 0 := ⟨zz_in 306 (by decide +kernel) rfl, zz_in 307 (by decide +kernel) rfl, zz_in 56 (by decide +kernel) rfl, zz_in 308 (by decide +kernel) rfl, by decide +kernel, by decide +kernel, by decide +kernel⟩
theorem zkw_Ma_allDone : zz_kv zy_Ma_allDone zc_Ma_allDone 1 (some .int) 0 := ⟨zz_in 310 (by decide +kernel) rfl, zz_in 311 (by decide +kernel) rfl, zz_in 56 (by decide +kernel) rfl, zz_in 312 (by decide +kernel) rfl, by decide +kernel, by decide +kernel, by decide +kernel⟩
theorem zkw_Fi_size : zz_kv zy_Fi_size zc_Fi_size 1 (some .int) 0 := ⟨zz_in 314 (by decide +kernel) rfl, zz_in 315 (by decide +kernel) rfl, zz_in 53 (by decide +kernel) rfl, zz_in 316 (by decide +kernel) rfl, by decide +kernel, by decide +kernel, by decide +kernel⟩
theorem zkw_Fi_allTimes : zz_kv zy_Fi_allTimes zc_Fi_allTimes 3 (some .int) 0 := ⟨zz_in 318 (by decide +kernel) rfl, zz_in 319 (by decide +kernel) rfl, zz_in 53 (by decide +kernel) rfl, zz_in 320 (by decide +kernel) rfl, by decide +kernel, by decide +kernel, by decide +kernel⟩
theorem zkw_He_there : zz_kv zy_He_there zc_He_there 1 (some .int) 0 := ⟨zz_in 322 (by decide +kernel) rfl, zz_in 323 (by decide +kernel) rfl, zz_in 54 (by decide +kernel) rfl, zz_in 324 (by decide +kernel) rfl, by decide +kernel, by decide +kernel, by decide +kernel⟩
theorem zkw_He_isLive : zz_kv zy_He_isLive zc_He_isLive 2 (some .boolean) 1 := ⟨zz_in 330 (by decide +kernel) rfl, zz_in 331 (by decide +kernel) rfl, zz_in 54 (by decide +kernel) rfl, zz_in 332 (by decide +kernel) rfl, by decide +kernel, by decide +kernel, by decide +kernel⟩
theorem zkw_He_resting : zz_kv zy_He_resting zc_He_resting 3 (some .int) 0 := ⟨zz_in 326 (by decide +kernel) rfl, zz_in 327 (by decide +kernel) rfl, zz_in 54 (by decide +kernel) rfl, zz_in 328 (by decide +kernel) rfl, by decide +kernel, by decide +kernel, by decide +kernel⟩
theorem zkw_He_everGot : zz_kv zy_He_everGot zc_He_everGot 1 (some .int) 0 := ⟨zz_in 334 (by decide +kernel) rfl, zz_in 335 (by decide +kernel) rfl, zz_in 54 (by decide +kernel) rfl, zz_in 336 (by decide +kernel) rfl, by decide +kernel, by decide +kernel, by decide +kernel⟩
theorem zkw_Pi_everTranslated : zz_kv zy_Pi_everTranslated zc_Pi_everTranslated 1 (some .int) 0 := ⟨zz_in 338 (by decide +kernel) rfl, zz_in 339 (by decide +kernel) rfl, zz_in 52 (by decide +kernel) rfl, zz_in 340 (by decide +kernel) rfl, by decide +kernel, by decide +kernel, by decide +kernel⟩
theorem zkw_Pi_there : zz_kv zy_Pi_there zc_Pi_there 3 (some .int) 0 := ⟨zz_in 342 (by decide +kernel) rfl, zz_in 343 (by decide +kernel) rfl, zz_in 52 (by decide +kernel) rfl, zz_in 344 (by decide +kernel) rfl, by decide +kernel, by decide +kernel, by decide +kernel⟩
theorem zkw_SW_count : zz_kv zy_SW_count zc_SW_count 2 (some .int) 1 := ⟨zz_in 298 (by decide +kernel) rfl, zz_in 299 (by decide +kernel) rfl, zz_in 48 (by decide +kernel) rfl, zz_in 300 (by decide +kernel) rfl, by decide +kernel, by decide +kernel, by decide +kernel⟩
theorem zkw_SW_isWithin : zz_ks zy_SW_isWithin zc_SW_isWithin 2 (some .boolean) 2 := ⟨zz_in 357 (by decide +kernel) rfl, zz_in 48 (by decide +kernel) rfl, zz_in 358 (by decide +kernel) rfl, by decide +kernel, by decide +kernel, by decide +kernel⟩
theorem zkw_Me_has : zz_ks zy_Me_has zc_Me_has 2 (some .boolean) 2 := ⟨zz_in 559 (by decide +kernel) rfl, zz_in 49 (by decide +kernel) rfl, zz_in 560 (by decide +kernel) rfl, by decide +kernel, by decide +kernel, by decide +kernel⟩
theorem zkw_Me_value : zz_kv zy_Me_value zc_Me_value 5 (some .int) 2 := ⟨zz_in 574 (by decide +kernel) rfl, zz_in 575 (by decide +kernel) rfl, zz_in 49 (by decide +kernel) rfl, zz_in 576 (by decide +kernel) rfl, by decide +kernel, by decide +kernel, by decide +kernel⟩
theorem zkw_Me_known : zz_kv zy_Me_known zc_Me_known 5 (some .int) 2 := ⟨zz_in 578 (by decide +kernel) rfl, zz_in 579 (by decide +kernel) rfl, zz_in 49 (by decide +kernel) rfl, zz_in 580 (by decide +kernel) rfl, by decide +kernel, by decide +kernel, by decide +kernel⟩
theorem zkw_Me_firstClosed : zz_kv zy_Me_firstClosed zc_Me_firstClosed 4 (some .int) 2 := ⟨zz_in 570 (by decide +kernel) rfl, zz_in 571 (by decide +kernel) rfl, zz_in 49 (by decide +kernel) rfl, zz_in 572 (by decide +kernel) rfl, by decide +kernel, by decide +kernel, by decide +kernel⟩
theorem zkw_Me_put : zz_kv zy_Me_put zc_Me_put 6 none 4 := ⟨zz_in 586 (by decide +kernel) rfl, zz_in 587 (by decide +kernel) rfl, zz_in 49 (by decide +kernel) rfl, zz_in 588 (by decide +kernel) rfl, by decide +kernel, by decide +kernel, by decide +kernel⟩
theorem zkw_Me_forget : zz_kv zy_Me_forget zc_Me_forget 5 none 3 := ⟨zz_in 618 (by decide +kernel) rfl, zz_in 619 (by decide +kernel) rfl, zz_in 49 (by decide +kernel) rfl, zz_in 620 (by decide +kernel) rfl, by decide +kernel, by decide +kernel, by decide +kernel⟩
theorem zkw_Me_isUsableWord : zz_kv zy_Me_isUsableWord zc_Me_isUsableWord 2 (some .boolean) 1 := ⟨zz_in 767 (by decide +kernel) rfl, zz_in 768 (by decide +kernel) rfl, zz_in 49 (by decide +kernel) rfl, zz_in 769 (by decide +kernel) rfl, by decide +kernel, by decide +kernel, by decide +kernel⟩
theorem zkw_Re_has : zz_ks zy_Re_has zc_Re_has 1 (some .boolean) 1 := ⟨zz_in 360 (by decide +kernel) rfl, zz_in 50 (by decide +kernel) rfl, zz_in 361 (by decide +kernel) rfl, by decide +kernel, by decide +kernel, by decide +kernel⟩
theorem zkw_Re_clear : zz_kv zy_Re_clear zc_Re_clear 2 none 0 := ⟨zz_in 100 (by decide +kernel) rfl, zz_in 101 (by decide +kernel) rfl, zz_in 50 (by decide +kernel) rfl, zz_in 102 (by decide +kernel) rfl, by decide +kernel, by decide +kernel, by decide +kernel⟩
theorem zkw_Re_value : zz_kv zy_Re_value zc_Re_value 2 (some .int) 1 := ⟨zz_in 510 (by decide +kernel) rfl, zz_in 511 (by decide +kernel) rfl, zz_in 50 (by decide +kernel) rfl, zz_in 512 (by decide +kernel) rfl, by decide +kernel, by decide +kernel, by decide +kernel⟩
theorem zkw_Re_known : zz_kv zy_Re_known zc_Re_known 2 (some .int) 1 := ⟨zz_in 518 (by decide +kernel) rfl, zz_in 519 (by decide +kernel) rfl, zz_in 50 (by decide +kernel) rfl, zz_in 520 (by decide +kernel) rfl, by decide +kernel, by decide +kernel, by decide +kernel⟩
theorem zkw_Re_isKnown : zz_kv zy_Re_isKnown zc_Re_isKnown 2 (some .boolean) 1 := ⟨zz_in 551 (by decide +kernel) rfl, zz_in 552 (by decide +kernel) rfl, zz_in 50 (by decide +kernel) rfl, zz_in 553 (by decide +kernel) rfl, by decide +kernel, by decide +kernel, by decide +kernel⟩
theorem zkw_Re_put : zz_kv zy_Re_put zc_Re_put 4 none 3 := ⟨zz_in 534 (by decide +kernel) rfl, zz_in 535 (by decide +kernel) rfl, zz_in 50 (by decide +kernel) rfl, zz_in 536 (by decide +kernel) rfl, by decide +kernel, by decide +kernel, by decide +kernel⟩
theorem zkw_Pr_has : zz_ks zy_Pr_has zc_Pr_has 1 (some .boolean) 1 := ⟨zz_in 354 (by decide +kernel) rfl, zz_in 51 (by decide +kernel) rfl, zz_in 355 (by decide +kernel) rfl, by decide +kernel, by decide +kernel, by decide +kernel⟩
theorem zkw_Pr_write : zz_kv zy_Pr_write zc_Pr_write 7 none 6 := ⟨zz_in 427 (by decide +kernel) rfl, zz_in 428 (by decide +kernel) rfl, zz_in 51 (by decide +kernel) rfl, zz_in 429 (by decide +kernel) rfl, by decide +kernel, by decide +kernel, by decide +kernel⟩
theorem zkw_Pr_op : zz_kv zy_Pr_op zc_Pr_op 2 (some .int) 1 := ⟨zz_in 498 (by decide +kernel) rfl, zz_in 499 (by decide +kernel) rfl, zz_in 51 (by decide +kernel) rfl, zz_in 500 (by decide +kernel) rfl, by decide +kernel, by decide +kernel, by decide +kernel⟩
theorem zkw_Pr_d : zz_kv zy_Pr_d zc_Pr_d 2 (some .int) 1 := ⟨zz_in 530 (by decide +kernel) rfl, zz_in 531 (by decide +kernel) rfl, zz_in 51 (by decide +kernel) rfl, zz_in 532 (by decide +kernel) rfl, by decide +kernel, by decide +kernel, by decide +kernel⟩
theorem zkw_Pr_a : zz_kv zy_Pr_a zc_Pr_a 2 (some .int) 1 := ⟨zz_in 506 (by decide +kernel) rfl, zz_in 507 (by decide +kernel) rfl, zz_in 51 (by decide +kernel) rfl, zz_in 508 (by decide +kernel) rfl, by decide +kernel, by decide +kernel, by decide +kernel⟩
theorem zkw_Pr_b : zz_kv zy_Pr_b zc_Pr_b 2 (some .int) 1 := ⟨zz_in 514 (by decide +kernel) rfl, zz_in 515 (by decide +kernel) rfl, zz_in 51 (by decide +kernel) rfl, zz_in 516 (by decide +kernel) rfl, by decide +kernel, by decide +kernel, by decide +kernel⟩
theorem zkw_Pr_n : zz_kv zy_Pr_n zc_Pr_n 2 (some .int) 1 := ⟨zz_in 522 (by decide +kernel) rfl, zz_in 523 (by decide +kernel) rfl, zz_in 51 (by decide +kernel) rfl, zz_in 524 (by decide +kernel) rfl, by decide +kernel, by decide +kernel, by decide +kernel⟩
theorem zkw_Pr_endsPiece : zz_kv zy_Pr_endsPiece zc_Pr_endsPiece 2 (some .boolean) 1 := ⟨zz_in 491 (by decide +kernel) rfl, zz_in 492 (by decide +kernel) rfl, zz_in 51 (by decide +kernel) rfl, zz_in 493 (by decide +kernel) rfl, by decide +kernel, by decide +kernel, by decide +kernel⟩
theorem zkw_Pi_putAway : zz_kv zy_Pi_putAway zc_Pi_putAway 1 none 0 := ⟨zz_in 475 (by decide +kernel) rfl, zz_in 476 (by decide +kernel) rfl, zz_in 52 (by decide +kernel) rfl, zz_in 477 (by decide +kernel) rfl, by decide +kernel, by decide +kernel, by decide +kernel⟩
theorem zkw_Pi_lengthFrom : zz_kv zy_Pi_lengthFrom zc_Pi_lengthFrom 3 (some .int) 1 := ⟨zz_in 488 (by decide +kernel) rfl, zz_in 2 (by decide +kernel) rfl, zz_in 52 (by decide +kernel) rfl, zz_in 489 (by decide +kernel) rfl, by decide +kernel, by decide +kernel, by decide +kernel⟩
theorem zkw_Pi_reach : zz_kv zy_Pi_reach zc_Pi_reach 2 none 1 := ⟨zz_in 483 (by decide +kernel) rfl, zz_in 484 (by decide +kernel) rfl, zz_in 52 (by decide +kernel) rfl, zz_in 485 (by decide +kernel) rfl, by decide +kernel, by decide +kernel, by decide +kernel⟩
theorem zkw_Pi_throwAwayWith : zz_kv zy_Pi_throwAwayWith zc_Pi_throwAwayWith 3 none 1 := ⟨zz_in 431 (by decide +kernel) rfl, zz_in 432 (by decide +kernel) rfl, zz_in 52 (by decide +kernel) rfl, zz_in 433 (by decide +kernel) rfl, by decide +kernel, by decide +kernel, by decide +kernel⟩
theorem zkw_Fi_note : zz_kv zy_Fi_note zc_Fi_note 5 none 3 := ⟨zz_in 555 (by decide +kernel) rfl, zz_in 556 (by decide +kernel) rfl, zz_in 53 (by decide +kernel) rfl, zz_in 557 (by decide +kernel) rfl, by decide +kernel, by decide +kernel, by decide +kernel⟩
theorem zkw_Fi_has : zz_kv zy_Fi_has zc_Fi_has 2 (some .boolean) 1 := ⟨zz_in 699 (by decide +kernel) rfl, zz_in 700 (by decide +kernel) rfl, zz_in 53 (by decide +kernel) rfl, zz_in 701 (by decide +kernel) rfl, by decide +kernel, by decide +kernel, by decide +kernel⟩
theorem zkw_Fi_kind : zz_kv zy_Fi_kind zc_Fi_kind 2 (some .int) 1 := ⟨zz_in 718 (by decide +kernel) rfl, zz_in 719 (by decide +kernel) rfl, zz_in 53 (by decide +kernel) rfl, zz_in 720 (by decide +kernel) rfl, by decide +kernel, by decide +kernel, by decide +kernel⟩
theorem zkw_Fi_instruction : zz_kv zy_Fi_instruction zc_Fi_instruction 2 (some .int) 1 := ⟨zz_in 722 (by decide +kernel) rfl, zz_in 723 (by decide +kernel) rfl, zz_in 53 (by decide +kernel) rfl, zz_in 724 (by decide +kernel) rfl, by decide +kernel, by decide +kernel, by decide +kernel⟩
theorem zkw_Fi_address : zz_kv zy_Fi_address zc_Fi_address 2 (some .int) 1 := ⟨zz_in 726 (by decide +kernel) rfl, zz_in 727 (by decide +kernel) rfl, zz_in 53 (by decide +kernel) rfl, zz_in 728 (by decide +kernel) rfl, by decide +kernel, by decide +kernel, by decide +kernel⟩
theorem zkw_Fi_times : zz_kv zy_Fi_times zc_Fi_times 2 (some .int) 1 := ⟨zz_in 730 (by decide +kernel) rfl, zz_in 731 (by decide +kernel) rfl, zz_in 53 (by decide +kernel) rfl, zz_in 732 (by decide +kernel) rfl, by decide +kernel, by decide +kernel, by decide +kernel⟩
theorem zkw_He_isFree : zz_kv zy_He_isFree zc_He_isFree 4 (some .boolean) 2 := ⟨zz_in 611 (by decide +kernel) rfl, zz_in 13 (by decide +kernel) rfl, zz_in 54 (by decide +kernel) rfl, zz_in 612 (by decide +kernel) rfl, by decide +kernel, by decide +kernel, by decide +kernel⟩
theorem zkw_He_placeFor : zz_kv zy_He_placeFor zc_He_placeFor 3 (some .int) 1 := ⟨zz_in 607 (by decide +kernel) rfl, zz_in 12 (by decide +kernel) rfl, zz_in 54 (by decide +kernel) rfl, zz_in 608 (by decide +kernel) rfl, by decide +kernel, by decide +kernel, by decide +kernel⟩
theorem zkw_He_add : zz_kv zy_He_add zc_He_add 4 none 3 := ⟨zz_in 615 (by decide +kernel) rfl, zz_in 14 (by decide +kernel) rfl, zz_in 54 (by decide +kernel) rfl, zz_in 616 (by decide +kernel) rfl, by decide +kernel, by decide +kernel, by decide +kernel⟩
theorem zkw_He_ask : zz_kv zy_He_ask zc_He_ask 4 (some .int) 1 := ⟨zz_in 602 (by decide +kernel) rfl, zz_in 603 (by decide +kernel) rfl, zz_in 54 (by decide +kernel) rfl, zz_in 604 (by decide +kernel) rfl, by decide +kernel, by decide +kernel, by decide +kernel⟩
theorem zkw_He_longestResting : zz_kv zy_He_longestResting zc_He_longestResting 3 (some .int) 0 := ⟨zz_in 637 (by decide +kernel) rfl, zz_in 16 (by decide +kernel) rfl, zz_in 54 (by decide +kernel) rfl, zz_in 638 (by decide +kernel) rfl, by decide +kernel, by decide +kernel, by decide +kernel⟩
theorem zkw_He_remove : zz_kv zy_He_remove zc_He_remove 3 none 1 := ⟨zz_in 641 (by decide +kernel) rfl, zz_in 17 (by decide +kernel) rfl, zz_in 54 (by decide +kernel) rfl, zz_in 642 (by decide +kernel) rfl, by decide +kernel, by decide +kernel, by decide +kernel⟩
theorem zkw_He_giveBack : zz_kv zy_He_giveBack zc_He_giveBack 2 none 1 := ⟨zz_in 631 (by decide +kernel) rfl, zz_in 632 (by decide +kernel) rfl, zz_in 54 (by decide +kernel) rfl, zz_in 633 (by decide +kernel) rfl, by decide +kernel, by decide +kernel, by decide +kernel⟩
theorem zkw_He_indexOfNumber : zz_kv zy_He_indexOfNumber zc_He_indexOfNumber 3 (some .int) 1 := ⟨zz_in 741 (by decide +kernel) rfl, zz_in 742 (by decide +kernel) rfl, zz_in 54 (by decide +kernel) rfl, zz_in 743 (by decide +kernel) rfl, by decide +kernel, by decide +kernel, by decide +kernel⟩
theorem zkw_He_indexOfAddress : zz_kv zy_He_indexOfAddress zc_He_indexOfAddress 3 (some .int) 1 := ⟨zz_in 626 (by decide +kernel) rfl, zz_in 627 (by decide +kernel) rfl, zz_in 54 (by decide +kernel) rfl, zz_in 628 (by decide +kernel) rfl, by decide +kernel, by decide +kernel, by decide +kernel⟩
theorem zkw_He_indexOfLiveAround : zz_kv zy_He_indexOfLiveAround zc_He_indexOfLiveAround 3 (some .int) 1 := ⟨zz_in 778 (by decide +kernel) rfl, zz_in 779 (by decide +kernel) rfl, zz_in 54 (by decide +kernel) rfl, zz_in 780 (by decide +kernel) rfl, by decide +kernel, by decide +kernel, by decide +kernel⟩
theorem zkw_He_address : zz_kv zy_He_address zc_He_address 2 (some .int) 1 := ⟨zz_in 745 (by decide +kernel) rfl, zz_in 746 (by decide +kernel) rfl, zz_in 54 (by decide +kernel) rfl, zz_in 747 (by decide +kernel) rfl, by decide +kernel, by decide +kernel, by decide +kernel⟩
theorem zkw_He_size : zz_kv zy_He_size zc_He_size 2 (some .int) 1 := ⟨zz_in 749 (by decide +kernel) rfl, zz_in 750 (by decide +kernel) rfl, zz_in 54 (by decide +kernel) rfl, zz_in 751 (by decide +kernel) rfl, by decide +kernel, by decide +kernel, by decide +kernel⟩
theorem zkw_He_end : zz_kv zy_He_end zc_He_end 2 (some .int) 1 := ⟨zz_in 789 (by decide +kernel) rfl, zz_in 790 (by decide +kernel) rfl, zz_in 54 (by decide +kernel) rfl, zz_in 791 (by decide +kernel) rfl, by decide +kernel, by decide +kernel, by decide +kernel⟩
theorem zkw_LS_takes : zz_kv zy_LS_takes zc_LS_takes 4 (some .boolean) 3 := ⟨zz_in 783 (by decide +kernel) rfl, zz_in 21 (by decide +kernel) rfl, zz_in 55 (by decide +kernel) rfl, zz_in 784 (by decide +kernel) rfl, by decide +kernel, by decide +kernel, by decide +kernel⟩
theorem zkw_LS_follow : zz_kv zy_LS_follow zc_LS_follow 4 none 2 := ⟨zz_in 775 (by decide +kernel) rfl, zz_in 20 (by decide +kernel) rfl, zz_in 55 (by decide +kernel) rfl, zz_in 776 (by decide +kernel) rfl, by decide +kernel, by decide +kernel, by decide +kernel⟩
theorem zkw_LS_followWords : zz_kv zy_LS_followWords zc_LS_followWords 5 none 3 := ⟨zz_in 764 (by decide +kernel) rfl, zz_in 19 (by decide +kernel) rfl, zz_in 55 (by decide +kernel) rfl, zz_in 765 (by decide +kernel) rfl, by decide +kernel, by decide +kernel, by decide +kernel⟩
theorem zkw_LS_followAll : zz_kv zy_LS_followAll zc_LS_followAll 3 none 1 := ⟨zz_in 760 (by decide +kernel) rfl, zz_in 18 (by decide +kernel) rfl, zz_in 55 (by decide +kernel) rfl, zz_in 761 (by decide +kernel) rfl, by decide +kernel, by decide +kernel, by decide +kernel⟩
theorem zkw_LS_loseWithAllBehind : zz_kv zy_LS_loseWithAllBehind zc_LS_loseWithAllBehind 3 none 1 := ⟨zz_in 795 (by decide +kernel) rfl, zz_in 22 (by decide +kernel) rfl, zz_in 55 (by decide +kernel) rfl, zz_in 796 (by decide +kernel) rfl, by decide +kernel, by decide +kernel, by decide +kernel⟩
theorem zkw_LS_make : zz_kv zy_LS_make zc_LS_make 2 none 0 := ⟨zz_in 754 (by decide +kernel) rfl, zz_in 755 (by decide +kernel) rfl, zz_in 55 (by decide +kernel) rfl, zz_in 756 (by decide +kernel) rfl, by decide +kernel, by decide +kernel, by decide +kernel⟩
theorem zkw_LS_verdict : zz_kv zy_LS_verdict zc_LS_verdict 2 (some .int) 1 := ⟨zz_in 798 (by decide +kernel) rfl, zz_in 799 (by decide +kernel) rfl, zz_in 55 (by decide +kernel) rfl, zz_in 800 (by decide +kernel) rfl, by decide +kernel, by decide +kernel, by decide +kernel⟩
theorem zkw_LS_howMany : zz_kv zy_LS_howMany zc_LS_howMany 4 (some .int) 1 := ⟨zz_in 809 (by decide +kernel) rfl, zz_in 810 (by decide +kernel) rfl, zz_in 55 (by decide +kernel) rfl, zz_in 811 (by decide +kernel) rfl, by decide +kernel, by decide +kernel, by decide +kernel⟩
theorem zkw_Ma_beginAt : zz_kv zy_Ma_beginAt zc_Ma_beginAt 2 none 1 := ⟨zz_in 442 (by decide +kernel) rfl, zz_in 443 (by decide +kernel) rfl, zz_in 56 (by decide +kernel) rfl, zz_in 444 (by decide +kernel) rfl, by decide +kernel, by decide +kernel, by decide +kernel⟩
theorem zkw_Mt_floorMod : zz_ks zy_Mt_floorMod zc_Mt_floorMod 3 (some .int) 2 := ⟨zz_in 495 (by decide +kernel) rfl, zz_in 63 (by decide +kernel) rfl, zz_in 496 (by decide +kernel) rfl, by decide +kernel, by decide +kernel, by decide +kernel⟩
theorem zkw_Ma_answer : zz_kv zy_Ma_answer zc_Ma_answer 3 none 2 := ⟨zz_in 527 (by decide +kernel) rfl, zz_in 4 (by decide +kernel) rfl, zz_in 56 (by decide +kernel) rfl, zz_in 528 (by decide +kernel) rfl, by decide +kernel, by decide +kernel, by decide +kernel⟩
theorem zkw_Kn_unspoiled : zz_ks zy_Kn_unspoiled zc_Kn_unspoiled 1 (some .int) 1 := ⟨zz_in 538 (by decide +kernel) rfl, zz_in 64 (by decide +kernel) rfl, zz_in 539 (by decide +kernel) rfl, by decide +kernel, by decide +kernel, by decide +kernel⟩
theorem zkw_Kn_bytesThatAre : zz_ks zy_Kn_bytesThatAre zc_Kn_bytesThatAre 4 (some .int) 2 := ⟨zz_in 544 (by decide +kernel) rfl, zz_in 64 (by decide +kernel) rfl, zz_in 545 (by decide +kernel) rfl, by decide +kernel, by decide +kernel, by decide +kernel⟩
theorem zkw_Kn_decided : zz_ks zy_Kn_decided zc_Kn_decided 5 (some .int) 5 := ⟨zz_in 541 (by decide +kernel) rfl, zz_in 64 (by decide +kernel) rfl, zz_in 542 (by decide +kernel) rfl, by decide +kernel, by decide +kernel, by decide +kernel⟩
theorem zkw_Ma_calculate : zz_kv zy_Ma_calculate zc_Ma_calculate 6 none 1 := ⟨zz_in 503 (by decide +kernel) rfl, zz_in 3 (by decide +kernel) rfl, zz_in 56 (by decide +kernel) rfl, zz_in 504 (by decide +kernel) rfl, by decide +kernel, by decide +kernel, by decide +kernel⟩
theorem zkw_Ma_noteClosed : zz_kv zy_Ma_noteClosed zc_Ma_noteClosed 5 none 3 := ⟨zz_in 567 (by decide +kernel) rfl, zz_in 7 (by decide +kernel) rfl, zz_in 56 (by decide +kernel) rfl, zz_in 568 (by decide +kernel) rfl, by decide +kernel, by decide +kernel, by decide +kernel⟩
theorem zkw_Ma_load : zz_kv zy_Ma_load zc_Ma_load 5 none 2 := ⟨zz_in 563 (by decide +kernel) rfl, zz_in 6 (by decide +kernel) rfl, zz_in 56 (by decide +kernel) rfl, zz_in 564 (by decide +kernel) rfl, by decide +kernel, by decide +kernel, by decide +kernel⟩
theorem zkw_Ma_store : zz_kv zy_Ma_store zc_Ma_store 3 none 2 := ⟨zz_in 583 (by decide +kernel) rfl, zz_in 8 (by decide +kernel) rfl, zz_in 56 (by decide +kernel) rfl, zz_in 584 (by decide +kernel) rfl, by decide +kernel, by decide +kernel, by decide +kernel⟩
theorem zkw_Ma_useMemory : zz_kv zy_Ma_useMemory zc_Ma_useMemory 4 none 1 := ⟨zz_in 548 (by decide +kernel) rfl, zz_in 5 (by decide +kernel) rfl, zz_in 56 (by decide +kernel) rfl, zz_in 549 (by decide +kernel) rfl, by decide +kernel, by decide +kernel, by decide +kernel⟩
theorem zkw_Ma_noteUnknown : zz_kv zy_Ma_noteUnknown zc_Ma_noteUnknown 3 none 1 := ⟨zz_in 595 (by decide +kernel) rfl, zz_in 10 (by decide +kernel) rfl, zz_in 56 (by decide +kernel) rfl, zz_in 596 (by decide +kernel) rfl, by decide +kernel, by decide +kernel, by decide +kernel⟩
theorem zkw_Ma_jump : zz_kv zy_Ma_jump zc_Ma_jump 5 none 1 := ⟨zz_in 591 (by decide +kernel) rfl, zz_in 9 (by decide +kernel) rfl, zz_in 56 (by decide +kernel) rfl, zz_in 592 (by decide +kernel) rfl, by decide +kernel, by decide +kernel, by decide +kernel⟩
theorem zkw_Ma_ask : zz_kv zy_Ma_ask zc_Ma_ask 1 none 0 := ⟨zz_in 599 (by decide +kernel) rfl, zz_in 11 (by decide +kernel) rfl, zz_in 56 (by decide +kernel) rfl, zz_in 600 (by decide +kernel) rfl, by decide +kernel, by decide +kernel, by decide +kernel⟩
theorem zkw_Ma_give : zz_kv zy_Ma_give zc_Ma_give 3 none 0 := ⟨zz_in 623 (by decide +kernel) rfl, zz_in 15 (by decide +kernel) rfl, zz_in 56 (by decide +kernel) rfl, zz_in 624 (by decide +kernel) rfl, by decide +kernel, by decide +kernel, by decide +kernel⟩
theorem zkw_Ma_step : zz_kv zy_Ma_step zc_Ma_step 2 none 0 := ⟨zz_in 480 (by decide +kernel) rfl, zz_in 1 (by decide +kernel) rfl, zz_in 56 (by decide +kernel) rfl, zz_in 481 (by decide +kernel) rfl, by decide +kernel, by decide +kernel, by decide +kernel⟩
theorem zkw_Ma_perform : zz_kv zy_Ma_perform zc_Ma_perform 4 (some .int) 1 := ⟨zz_in 471 (by decide +kernel) rfl, zz_in 472 (by decide +kernel) rfl, zz_in 56 (by decide +kernel) rfl, zz_in 473 (by decide +kernel) rfl, by decide +kernel, by decide +kernel, by decide +kernel⟩
theorem zkw_Ma_hasFaulted : zz_kv zy_Ma_hasFaulted zc_Ma_hasFaulted 1 (some .boolean) 0 := ⟨zz_in 644 (by decide +kernel) rfl, zz_in 645 (by decide +kernel) rfl, zz_in 56 (by decide +kernel) rfl, zz_in 646 (by decide +kernel) rfl, by decide +kernel, by decide +kernel, by decide +kernel⟩
theorem zl_He_68 : Cond.methodLink zR_He 68 zy_He_isLive ∈ zz_WS := zz_in 329 (by decide +kernel) rfl
theorem zl_SW_170 : Cond.methodLink zR_SW 170 zy_Ma_position ∈ zz_WS := zz_in 301 (by decide +kernel) rfl
theorem zl_SW_96 : Cond.methodLink zR_SW 96 zy_Ma_isStopped ∈ zz_WS := zz_in 305 (by decide +kernel) rfl
theorem zl_SW_174 : Cond.methodLink zR_SW 174 zy_Ma_allDone ∈ zz_WS := zz_in 309 (by decide +kernel) rfl
theorem zl_SW_177 : Cond.methodLink zR_SW 177 zy_Fi_size ∈ zz_WS := zz_in 313 (by decide +kernel) rfl
theorem zl_SW_179 : Cond.methodLink zR_SW 179 zy_Fi_allTimes ∈ zz_WS := zz_in 317 (by decide +kernel) rfl
theorem zl_SW_182 : Cond.methodLink zR_SW 182 zy_He_there ∈ zz_WS := zz_in 321 (by decide +kernel) rfl
theorem zl_SW_185 : Cond.methodLink zR_SW 185 zy_He_resting ∈ zz_WS := zz_in 325 (by decide +kernel) rfl
theorem zl_SW_188 : Cond.methodLink zR_SW 188 zy_He_everGot ∈ zz_WS := zz_in 333 (by decide +kernel) rfl
theorem zl_SW_191 : Cond.methodLink zR_SW 191 zy_Pi_everTranslated ∈ zz_WS := zz_in 337 (by decide +kernel) rfl
theorem zl_SW_194 : Cond.methodLink zR_SW 194 zy_Pi_there ∈ zz_WS := zz_in 341 (by decide +kernel) rfl
theorem zl_Me_20 : Cond.methodLink zR_Me 20 zy_Me_firstClosed ∈ zz_WS := zz_in 770 (by decide +kernel) rfl
theorem zl_Me_24 : Cond.methodLink zR_Me 24 zy_Me_known ∈ zz_WS := zz_in 771 (by decide +kernel) rfl
theorem zl_Pi_30 : Cond.methodLink zR_Pi 30 zy_Pr_endsPiece ∈ zz_WS := zz_in 490 (by decide +kernel) rfl
theorem zl_Pi_23 : Cond.methodLink zR_Pi 23 zy_Pi_lengthFrom ∈ zz_WS := zz_in 486 (by decide +kernel) rfl
theorem zl_He_47 : Cond.methodLink zR_He 47 zy_He_isFree ∈ zz_WS := zz_in 609 (by decide +kernel) rfl
theorem zl_He_33 : Cond.methodLink zR_He 33 zy_He_placeFor ∈ zz_WS := zz_in 605 (by decide +kernel) rfl
theorem zl_He_37 : Cond.methodLink zR_He 37 zy_He_add ∈ zz_WS := zz_in 613 (by decide +kernel) rfl
theorem zl_He_41 : Cond.methodLink zR_He 41 zy_Me_forget ∈ zz_WS := zz_in 617 (by decide +kernel) rfl
theorem zl_He_57 : Cond.methodLink zR_He 57 zy_He_resting ∈ zz_WS := zz_in 634 (by decide +kernel) rfl
theorem zl_He_61 : Cond.methodLink zR_He 61 zy_He_longestResting ∈ zz_WS := zz_in 635 (by decide +kernel) rfl
theorem zl_He_64 : Cond.methodLink zR_He 64 zy_He_remove ∈ zz_WS := zz_in 639 (by decide +kernel) rfl
theorem zl_LS_68 : Cond.methodLink zR_LS 68 zy_He_address ∈ zz_WS := zz_in 785 (by decide +kernel) rfl
theorem zl_LS_80 : Cond.methodLink zR_LS 80 zy_He_indexOfLiveAround ∈ zz_WS := zz_in 777 (by decide +kernel) rfl
theorem zl_LS_83 : Cond.methodLink zR_LS 83 zy_LS_takes ∈ zz_WS := zz_in 781 (by decide +kernel) rfl
theorem zl_LS_74 : Cond.methodLink zR_LS 74 zy_Me_isUsableWord ∈ zz_WS := zz_in 766 (by decide +kernel) rfl
theorem zl_LS_77 : Cond.methodLink zR_LS 77 zy_Me_value ∈ zz_WS := zz_in 772 (by decide +kernel) rfl
theorem zl_LS_64 : Cond.methodLink zR_LS 64 zy_LS_follow ∈ zz_WS := zz_in 773 (by decide +kernel) rfl
theorem zl_LS_51 : Cond.methodLink zR_LS 51 zy_LS_followWords ∈ zz_WS := zz_in 762 (by decide +kernel) rfl
theorem zl_LS_57 : Cond.methodLink zR_LS 57 zy_Re_isKnown ∈ zz_WS := zz_in 786 (by decide +kernel) rfl
theorem zl_LS_60 : Cond.methodLink zR_LS 60 zy_Re_value ∈ zz_WS := zz_in 787 (by decide +kernel) rfl
theorem zl_LS_71 : Cond.methodLink zR_LS 71 zy_He_end ∈ zz_WS := zz_in 788 (by decide +kernel) rfl
theorem zl_LS_30 : Cond.methodLink zR_LS 30 zy_He_there ∈ zz_WS := zz_in 757 (by decide +kernel) rfl
theorem zl_LS_38 : Cond.methodLink zR_LS 38 zy_LS_followAll ∈ zz_WS := zz_in 758 (by decide +kernel) rfl
theorem zl_LS_42 : Cond.methodLink zR_LS 42 zy_He_isLive ∈ zz_WS := zz_in 792 (by decide +kernel) rfl
theorem zl_LS_46 : Cond.methodLink zR_LS 46 zy_LS_loseWithAllBehind ∈ zz_WS := zz_in 793 (by decide +kernel) rfl
theorem zl_Ma_44 : Cond.methodLink zR_Ma 44 zy_Re_clear ∈ zz_WS := zz_in 445 (by decide +kernel) rfl
theorem zl_Ma_122 : Cond.methodLink zR_Ma 122 zy_Pr_d ∈ zz_WS := zz_in 529 (by decide +kernel) rfl
theorem zl_Ma_125 : Cond.methodLink zR_Ma 125 zy_Re_put ∈ zz_WS := zz_in 533 (by decide +kernel) rfl
theorem zl_Kn_7 : Cond.methodLink zR_Kn 7 zy_Kn_bytesThatAre ∈ zz_WS := zz_in 543 (by decide +kernel) rfl
theorem zl_Ma_94 : Cond.methodLink zR_Ma 94 zy_Pr_a ∈ zz_WS := zz_in 505 (by decide +kernel) rfl
theorem zl_Ma_97 : Cond.methodLink zR_Ma 97 zy_Re_value ∈ zz_WS := zz_in 509 (by decide +kernel) rfl
theorem zl_Ma_100 : Cond.methodLink zR_Ma 100 zy_Pr_b ∈ zz_WS := zz_in 513 (by decide +kernel) rfl
theorem zl_Ma_103 : Cond.methodLink zR_Ma 103 zy_Re_known ∈ zz_WS := zz_in 517 (by decide +kernel) rfl
theorem zl_Ma_106 : Cond.methodLink zR_Ma 106 zy_Pr_n ∈ zz_WS := zz_in 521 (by decide +kernel) rfl
theorem zl_Ma_111 : Cond.methodLink zR_Ma 111 zy_Ma_answer ∈ zz_WS := zz_in 525 (by decide +kernel) rfl
theorem zl_Ma_115 : Cond.methodLink zR_Ma 115 zy_Kn_unspoiled ∈ zz_WS := zz_in 537 (by decide +kernel) rfl
theorem zl_Ma_118 : Cond.methodLink zR_Ma 118 zy_Kn_decided ∈ zz_WS := zz_in 540 (by decide +kernel) rfl
theorem zl_Ma_160 : Cond.methodLink zR_Ma 160 zy_Me_firstClosed ∈ zz_WS := zz_in 569 (by decide +kernel) rfl
theorem zl_Ma_135 : Cond.methodLink zR_Ma 135 zy_Fi_note ∈ zz_WS := zz_in 554 (by decide +kernel) rfl
theorem zl_Ma_150 : Cond.methodLink zR_Ma 150 zy_Ma_noteClosed ∈ zz_WS := zz_in 565 (by decide +kernel) rfl
theorem zl_Ma_153 : Cond.methodLink zR_Ma 153 zy_Me_value ∈ zz_WS := zz_in 573 (by decide +kernel) rfl
theorem zl_Ma_155 : Cond.methodLink zR_Ma 155 zy_Me_known ∈ zz_WS := zz_in 577 (by decide +kernel) rfl
theorem zl_Ma_157 : Cond.methodLink zR_Ma 157 zy_Me_put ∈ zz_WS := zz_in 585 (by decide +kernel) rfl
theorem zl_Ma_129 : Cond.methodLink zR_Ma 129 zy_Re_isKnown ∈ zz_WS := zz_in 550 (by decide +kernel) rfl
theorem zl_Ma_138 : Cond.methodLink zR_Ma 138 zy_Me_has ∈ zz_WS := zz_in 558 (by decide +kernel) rfl
theorem zl_Ma_144 : Cond.methodLink zR_Ma 144 zy_Ma_load ∈ zz_WS := zz_in 561 (by decide +kernel) rfl
theorem zl_Ma_147 : Cond.methodLink zR_Ma 147 zy_Ma_store ∈ zz_WS := zz_in 581 (by decide +kernel) rfl
theorem zl_Ma_66 : Cond.methodLink zR_Ma 66 zy_Mt_floorMod ∈ zz_WS := zz_in 494 (by decide +kernel) rfl
theorem zl_Ma_163 : Cond.methodLink zR_Ma 163 zy_Ma_noteUnknown ∈ zz_WS := zz_in 593 (by decide +kernel) rfl
theorem zl_Ma_167 : Cond.methodLink zR_Ma 167 zy_He_ask ∈ zz_WS := zz_in 601 (by decide +kernel) rfl
theorem zl_Ma_171 : Cond.methodLink zR_Ma 171 zy_He_indexOfAddress ∈ zz_WS := zz_in 625 (by decide +kernel) rfl
theorem zl_Ma_174 : Cond.methodLink zR_Ma 174 zy_He_isLive ∈ zz_WS := zz_in 629 (by decide +kernel) rfl
theorem zl_Ma_177 : Cond.methodLink zR_Ma 177 zy_He_giveBack ∈ zz_WS := zz_in 630 (by decide +kernel) rfl
theorem zl_Ma_60 : Cond.methodLink zR_Ma 60 zy_Pi_reach ∈ zz_WS := zz_in 482 (by decide +kernel) rfl
theorem zl_Ma_75 : Cond.methodLink zR_Ma 75 zy_Pr_op ∈ zz_WS := zz_in 497 (by decide +kernel) rfl
theorem zl_Ma_79 : Cond.methodLink zR_Ma 79 zy_Ma_calculate ∈ zz_WS := zz_in 501 (by decide +kernel) rfl
theorem zl_Ma_82 : Cond.methodLink zR_Ma 82 zy_Ma_useMemory ∈ zz_WS := zz_in 546 (by decide +kernel) rfl
theorem zl_Ma_85 : Cond.methodLink zR_Ma 85 zy_Ma_jump ∈ zz_WS := zz_in 589 (by decide +kernel) rfl
theorem zl_Ma_88 : Cond.methodLink zR_Ma 88 zy_Ma_ask ∈ zz_WS := zz_in 597 (by decide +kernel) rfl
theorem zl_Ma_91 : Cond.methodLink zR_Ma 91 zy_Ma_give ∈ zz_WS := zz_in 621 (by decide +kernel) rfl
theorem zl_Ma_52 : Cond.methodLink zR_Ma 52 zy_Pi_putAway ∈ zz_WS := zz_in 474 (by decide +kernel) rfl
theorem zl_Ma_57 : Cond.methodLink zR_Ma 57 zy_Ma_step ∈ zz_WS := zz_in 478 (by decide +kernel) rfl
