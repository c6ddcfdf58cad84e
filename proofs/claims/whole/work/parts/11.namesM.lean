abbrev zc_Mo_thrown : ByteArray := prog_12_method_2_code
def zy_Mo_thrown : MethodName := ⟨zR_Mo, "thrown", "()I"⟩
def zm_Mo_thrown : Room := { frames := 0, cells := 0, slots := 0, locals := 0 }
abbrev zc_Mo_in : ByteArray := prog_12_method_3_code
def zy_Mo_in : MethodName := ⟨zR_Mo, "in", "(III)Z"⟩
def zm_Mo_in : Room := { frames := 0, cells := 0, slots := 0, locals := 0 }
abbrev zc_Mo_bad : ByteArray := prog_12_method_4_code
def zy_Mo_bad : MethodName := ⟨zR_Mo, "bad", "(Z)Z"⟩
def zm_Mo_bad : Room := { frames := 0, cells := 0, slots := 0, locals := 0 }
abbrev zc_Mo_ends : ByteArray := prog_12_method_5_code
def zy_Mo_ends : MethodName := ⟨zR_Mo, "ends", "(I)Z"⟩
def zm_Mo_ends : Room := { frames := 1, cells := 0, slots := 0, locals := 22 }
abbrev zc_Mo_endOf : ByteArray := prog_12_method_6_code
def zy_Mo_endOf : MethodName := ⟨zR_Mo, "endOf", "(I)I"⟩
def zm_Mo_endOf : Room := { frames := 2, cells := 0, slots := 0, locals := 43 }
abbrev zc_Mo_code : ByteArray := prog_12_method_7_code
def zy_Mo_code : MethodName := ⟨zR_Mo, "code", "(IIIIII)V"⟩
def zm_Mo_code : Room := { frames := 3, cells := 0, slots := 0, locals := 65 }
abbrev zc_Mo_put : ByteArray := prog_12_method_10_code
def zy_Mo_put : MethodName := ⟨zR_Mo, "put", "(III)V"⟩
def zm_Mo_put : Room := { frames := 0, cells := 0, slots := 0, locals := 0 }
abbrev zc_Mo_start : ByteArray := prog_12_method_8_code
def zy_Mo_start : MethodName := ⟨zR_Mo, "start", "(I)V"⟩
def zm_Mo_start : Room := { frames := 1, cells := 0, slots := 0, locals := 23 }
abbrev zc_Mo_note : ByteArray := prog_12_method_9_code
def zy_Mo_note : MethodName := ⟨zR_Mo, "note", "(II)V"⟩
def zm_Mo_note : Room := { frames := 0, cells := 0, slots := 0, locals := 0 }
abbrev zc_Mo_lowest : ByteArray := prog_12_method_11_code
def zy_Mo_lowest : MethodName := ⟨zR_Mo, "lowest", "(I)I"⟩
def zm_Mo_lowest : Room := { frames := 0, cells := 0, slots := 0, locals := 0 }
abbrev zc_Mo_bytes : ByteArray := prog_12_method_12_code
def zy_Mo_bytes : MethodName := ⟨zR_Mo, "bytes", "(II)I"⟩
def zm_Mo_bytes : Room := { frames := 0, cells := 0, slots := 0, locals := 0 }
abbrev zc_Mo_compute : ByteArray := prog_12_method_13_code
def zy_Mo_compute : MethodName := ⟨zR_Mo, "compute", "(II)V"⟩
def zm_Mo_compute : Room := { frames := 1, cells := 0, slots := 0, locals := 23 }
abbrev zc_Mo_closed : ByteArray := prog_12_method_14_code
def zy_Mo_closed : MethodName := ⟨zR_Mo, "closed", "(III)V"⟩
def zm_Mo_closed : Room := { frames := 1, cells := 0, slots := 0, locals := 23 }
abbrev zc_Mo_word : ByteArray := prog_12_method_15_code
def zy_Mo_word : MethodName := ⟨zR_Mo, "word", "(I)I"⟩
def zm_Mo_word : Room := { frames := 0, cells := 0, slots := 0, locals := 0 }
abbrev zc_Mo_wordKnown : ByteArray := prog_12_method_16_code
def zy_Mo_wordKnown : MethodName := ⟨zR_Mo, "wordKnown", "(I)I"⟩
def zm_Mo_wordKnown : Room := { frames := 0, cells := 0, slots := 0, locals := 0 }
abbrev zc_Mo_access : ByteArray := prog_12_method_17_code
def zy_Mo_access : MethodName := ⟨zR_Mo, "access", "(II)Z"⟩
def zm_Mo_access : Room := { frames := 2, cells := 0, slots := 0, locals := 47 }
abbrev zc_Mo_room : ByteArray := prog_12_method_18_code
def zy_Mo_room : MethodName := ⟨zR_Mo, "room", "(I)I"⟩
def zm_Mo_room : Room := { frames := 0, cells := 0, slots := 0, locals := 0 }
abbrev zc_Mo_free : ByteArray := prog_12_method_19_code
def zy_Mo_free : MethodName := ⟨zR_Mo, "free", "(II)Z"⟩
def zm_Mo_free : Room := { frames := 1, cells := 0, slots := 0, locals := 20 }
abbrev zc_Mo_mark : ByteArray := prog_12_method_21_code
def zy_Mo_mark : MethodName := ⟨zR_Mo, "mark", "(III)V"⟩
def zm_Mo_mark : Room := { frames := 0, cells := 0, slots := 0, locals := 0 }
abbrev zc_Mo_ask : ByteArray := prog_12_method_20_code
def zy_Mo_ask : MethodName := ⟨zR_Mo, "ask", "(I)I"⟩
def zm_Mo_ask : Room := { frames := 2, cells := 0, slots := 0, locals := 43 }
abbrev zc_Mo_resting : ByteArray := prog_12_method_23_code
def zy_Mo_resting : MethodName := ⟨zR_Mo, "resting", "()I"⟩
def zm_Mo_resting : Room := { frames := 0, cells := 0, slots := 0, locals := 0 }
abbrev zc_Mo_forget : ByteArray := prog_12_method_24_code
def zy_Mo_forget : MethodName := ⟨zR_Mo, "forget", "()V"⟩
def zm_Mo_forget : Room := { frames := 0, cells := 0, slots := 0, locals := 0 }
abbrev zc_Mo_give : ByteArray := prog_12_method_22_code
def zy_Mo_give : MethodName := ⟨zR_Mo, "give", "(I)V"⟩
def zm_Mo_give : Room := { frames := 1, cells := 0, slots := 0, locals := 24 }
abbrev zc_Mo_perform : ByteArray := prog_12_method_25_code
def zy_Mo_perform : MethodName := ⟨zR_Mo, "perform", "(II)I"⟩
def zm_Mo_perform : Room := { frames := 3, cells := 0, slots := 0, locals := 65 }
abbrev zc_Mo_run : ByteArray := prog_12_method_26_code
def zy_Mo_run : MethodName := ⟨zR_Mo, "run", "(I)I"⟩
def zm_Mo_run : Room := { frames := 4, cells := 0, slots := 0, locals := 90 }
abbrev zc_Mo_leads : ByteArray := prog_12_method_27_code
def zy_Mo_leads : MethodName := ⟨zR_Mo, "leads", "(II)I"⟩
def zm_Mo_leads : Room := { frames := 0, cells := 0, slots := 0, locals := 0 }
abbrev zc_Mo_wordsLead : ByteArray := prog_12_method_28_code
def zy_Mo_wordsLead : MethodName := ⟨zR_Mo, "wordsLead", "(III)I"⟩
def zm_Mo_wordsLead : Room := { frames := 1, cells := 0, slots := 0, locals := 22 }
abbrev zc_Mo_rootsLead : ByteArray := prog_12_method_29_code
def zy_Mo_rootsLead : MethodName := ⟨zR_Mo, "rootsLead", "(I)I"⟩
def zm_Mo_rootsLead : Room := { frames := 2, cells := 0, slots := 0, locals := 48 }
abbrev zc_Mo_blockLeads : ByteArray := prog_12_method_30_code
def zy_Mo_blockLeads : MethodName := ⟨zR_Mo, "blockLeads", "(II)I"⟩
def zm_Mo_blockLeads : Room := { frames := 2, cells := 0, slots := 0, locals := 48 }
abbrev zc_Mo_led : ByteArray := prog_12_method_31_code
def zy_Mo_led : MethodName := ⟨zR_Mo, "led", "(III)Z"⟩
def zm_Mo_led : Room := { frames := 3, cells := 0, slots := 0, locals := 70 }
abbrev zc_Mo_drag : ByteArray := prog_12_method_32_code
def zy_Mo_drag : MethodName := ⟨zR_Mo, "drag", "(I)V"⟩
def zm_Mo_drag : Room := { frames := 3, cells := 0, slots := 0, locals := 70 }
abbrev zc_Mo_scan : ByteArray := prog_12_method_33_code
def zy_Mo_scan : MethodName := ⟨zR_Mo, "scan", "()V"⟩
def zm_Mo_scan : Room := { frames := 4, cells := 0, slots := 0, locals := 96 }
abbrev zc_Mo_register : ByteArray := prog_12_method_34_code
def zy_Mo_register : MethodName := ⟨zR_Mo, "register", "(II)I"⟩
def zm_Mo_register : Room := { frames := 1, cells := 0, slots := 0, locals := 22 }
abbrev zc_Mo_memory : ByteArray := prog_12_method_35_code
def zy_Mo_memory : MethodName := ⟨zR_Mo, "memory", "(II)I"⟩
def zm_Mo_memory : Room := { frames := 1, cells := 0, slots := 0, locals := 22 }
abbrev zc_Mo_poke : ByteArray := prog_12_method_36_code
def zy_Mo_poke : MethodName := ⟨zR_Mo, "poke", "(II)V"⟩
def zm_Mo_poke : Room := { frames := 1, cells := 0, slots := 0, locals := 22 }
abbrev zc_Mo_finding : ByteArray := prog_12_method_37_code
def zy_Mo_finding : MethodName := ⟨zR_Mo, "finding", "(II)I"⟩
def zm_Mo_finding : Room := { frames := 1, cells := 0, slots := 0, locals := 22 }
abbrev zc_Mo_block : ByteArray := prog_12_method_38_code
def zy_Mo_block : MethodName := ⟨zR_Mo, "block", "(II)I"⟩
def zm_Mo_block : Room := { frames := 5, cells := 0, slots := 0, locals := 118 }
abbrev zc_Mo_leaks : ByteArray := prog_12_method_39_code
def zy_Mo_leaks : MethodName := ⟨zR_Mo, "leaks", "(I)I"⟩
def zm_Mo_leaks : Room := { frames := 5, cells := 0, slots := 0, locals := 118 }
abbrev zc_Mo_count : ByteArray := prog_12_method_40_code
def zy_Mo_count : MethodName := ⟨zR_Mo, "count", "(I)I"⟩
def zm_Mo_count : Room := { frames := 1, cells := 0, slots := 0, locals := 22 }
theorem zkw_Mo_thrown : zz_kv zy_Mo_thrown zc_Mo_thrown 1 (some .int) 0 := ⟨zz_in 907 (by decide +kernel) rfl, zz_in 908 (by decide +kernel) rfl, zz_in 57 (by decide +kernel) rfl, zz_in 909 (by decide +kernel) rfl, by decide +kernel, by decide +kernel, by decide +kernel⟩
theorem zkw_Mo_in : zz_ks zy_Mo_in zc_Mo_in 3 (some .boolean) 3 := ⟨zz_in 915 (by decide +kernel) rfl, zz_in 57 (by decide +kernel) rfl, zz_in 916 (by decide +kernel) rfl, by decide +kernel, by decide +kernel, by decide +kernel⟩
theorem zkw_Mo_bad : zz_kv zy_Mo_bad zc_Mo_bad 2 (some .boolean) 1 := ⟨zz_in 919 (by decide +kernel) rfl, zz_in 23 (by decide +kernel) rfl, zz_in 57 (by decide +kernel) rfl, zz_in 920 (by decide +kernel) rfl, by decide +kernel, by decide +kernel, by decide +kernel⟩
theorem zkw_Mo_ends : zz_kv zy_Mo_ends zc_Mo_ends 2 (some .boolean) 1 := ⟨zz_in 927 (by decide +kernel) rfl, zz_in 25 (by decide +kernel) rfl, zz_in 57 (by decide +kernel) rfl, zz_in 928 (by decide +kernel) rfl, by decide +kernel, by decide +kernel, by decide +kernel⟩
theorem zkw_Mo_endOf : zz_kv zy_Mo_endOf zc_Mo_endOf 3 (some .int) 1 := ⟨zz_in 923 (by decide +kernel) rfl, zz_in 24 (by decide +kernel) rfl, zz_in 57 (by decide +kernel) rfl, zz_in 924 (by decide +kernel) rfl, by decide +kernel, by decide +kernel, by decide +kernel⟩
theorem zkw_Mo_code : zz_kv zy_Mo_code zc_Mo_code 8 none 6 := ⟨zz_in 911 (by decide +kernel) rfl, zz_in 912 (by decide +kernel) rfl, zz_in 57 (by decide +kernel) rfl, zz_in 913 (by decide +kernel) rfl, by decide +kernel, by decide +kernel, by decide +kernel⟩
theorem zkw_Mo_put : zz_kv zy_Mo_put zc_Mo_put 4 none 3 := ⟨zz_in 935 (by decide +kernel) rfl, zz_in 26 (by decide +kernel) rfl, zz_in 57 (by decide +kernel) rfl, zz_in 936 (by decide +kernel) rfl, by decide +kernel, by decide +kernel, by decide +kernel⟩
theorem zkw_Mo_start : zz_kv zy_Mo_start zc_Mo_start 3 none 1 := ⟨zz_in 930 (by decide +kernel) rfl, zz_in 931 (by decide +kernel) rfl, zz_in 57 (by decide +kernel) rfl, zz_in 932 (by decide +kernel) rfl, by decide +kernel, by decide +kernel, by decide +kernel⟩
theorem zkw_Mo_note : zz_kv zy_Mo_note zc_Mo_note 4 none 2 := ⟨zz_in 947 (by decide +kernel) rfl, zz_in 28 (by decide +kernel) rfl, zz_in 57 (by decide +kernel) rfl, zz_in 948 (by decide +kernel) rfl, by decide +kernel, by decide +kernel, by decide +kernel⟩
theorem zkw_Mo_lowest : zz_ks zy_Mo_lowest zc_Mo_lowest 3 (some .int) 1 := ⟨zz_in 997 (by decide +kernel) rfl, zz_in 57 (by decide +kernel) rfl, zz_in 998 (by decide +kernel) rfl, by decide +kernel, by decide +kernel, by decide +kernel⟩
theorem zkw_Mo_bytes : zz_ks zy_Mo_bytes zc_Mo_bytes 4 (some .int) 2 := ⟨zz_in 1000 (by decide +kernel) rfl, zz_in 57 (by decide +kernel) rfl, zz_in 1001 (by decide +kernel) rfl, by decide +kernel, by decide +kernel, by decide +kernel⟩
theorem zkw_Mo_compute : zz_kv zy_Mo_compute zc_Mo_compute 8 none 2 := ⟨zz_in 994 (by decide +kernel) rfl, zz_in 39 (by decide +kernel) rfl, zz_in 57 (by decide +kernel) rfl, zz_in 995 (by decide +kernel) rfl, by decide +kernel, by decide +kernel, by decide +kernel⟩
theorem zkw_Mo_closed : zz_kv zy_Mo_closed zc_Mo_closed 5 none 3 := ⟨zz_in 951 (by decide +kernel) rfl, zz_in 29 (by decide +kernel) rfl, zz_in 57 (by decide +kernel) rfl, zz_in 952 (by decide +kernel) rfl, by decide +kernel, by decide +kernel, by decide +kernel⟩
theorem zkw_Mo_word : zz_kv zy_Mo_word zc_Mo_word 2 (some .int) 1 := ⟨zz_in 955 (by decide +kernel) rfl, zz_in 30 (by decide +kernel) rfl, zz_in 57 (by decide +kernel) rfl, zz_in 956 (by decide +kernel) rfl, by decide +kernel, by decide +kernel, by decide +kernel⟩
theorem zkw_Mo_wordKnown : zz_kv zy_Mo_wordKnown zc_Mo_wordKnown 2 (some .int) 1 := ⟨zz_in 959 (by decide +kernel) rfl, zz_in 31 (by decide +kernel) rfl, zz_in 57 (by decide +kernel) rfl, zz_in 960 (by decide +kernel) rfl, by decide +kernel, by decide +kernel, by decide +kernel⟩
theorem zkw_Mo_access : zz_kv zy_Mo_access zc_Mo_access 6 (some .boolean) 2 := ⟨zz_in 943 (by decide +kernel) rfl, zz_in 27 (by decide +kernel) rfl, zz_in 57 (by decide +kernel) rfl, zz_in 944 (by decide +kernel) rfl, by decide +kernel, by decide +kernel, by decide +kernel⟩
theorem zkw_Mo_room : zz_ks zy_Mo_room zc_Mo_room 1 (some .int) 1 := ⟨zz_in 970 (by decide +kernel) rfl, zz_in 57 (by decide +kernel) rfl, zz_in 971 (by decide +kernel) rfl, by decide +kernel, by decide +kernel, by decide +kernel⟩
theorem zkw_Mo_free : zz_kv zy_Mo_free zc_Mo_free 4 (some .boolean) 2 := ⟨zz_in 974 (by decide +kernel) rfl, zz_in 34 (by decide +kernel) rfl, zz_in 57 (by decide +kernel) rfl, zz_in 975 (by decide +kernel) rfl, by decide +kernel, by decide +kernel, by decide +kernel⟩
theorem zkw_Mo_mark : zz_kv zy_Mo_mark zc_Mo_mark 5 none 3 := ⟨zz_in 978 (by decide +kernel) rfl, zz_in 35 (by decide +kernel) rfl, zz_in 57 (by decide +kernel) rfl, zz_in 979 (by decide +kernel) rfl, by decide +kernel, by decide +kernel, by decide +kernel⟩
theorem zkw_Mo_ask : zz_kv zy_Mo_ask zc_Mo_ask 3 (some .int) 1 := ⟨zz_in 967 (by decide +kernel) rfl, zz_in 33 (by decide +kernel) rfl, zz_in 57 (by decide +kernel) rfl, zz_in 968 (by decide +kernel) rfl, by decide +kernel, by decide +kernel, by decide +kernel⟩
theorem zkw_Mo_resting : zz_kv zy_Mo_resting zc_Mo_resting 3 (some .int) 0 := ⟨zz_in 986 (by decide +kernel) rfl, zz_in 37 (by decide +kernel) rfl, zz_in 57 (by decide +kernel) rfl, zz_in 987 (by decide +kernel) rfl, by decide +kernel, by decide +kernel, by decide +kernel⟩
theorem zkw_Mo_forget : zz_kv zy_Mo_forget zc_Mo_forget 3 none 0 := ⟨zz_in 990 (by decide +kernel) rfl, zz_in 38 (by decide +kernel) rfl, zz_in 57 (by decide +kernel) rfl, zz_in 991 (by decide +kernel) rfl, by decide +kernel, by decide +kernel, by decide +kernel⟩
theorem zkw_Mo_give : zz_kv zy_Mo_give zc_Mo_give 3 none 1 := ⟨zz_in 982 (by decide +kernel) rfl, zz_in 36 (by decide +kernel) rfl, zz_in 57 (by decide +kernel) rfl, zz_in 983 (by decide +kernel) rfl, by decide +kernel, by decide +kernel, by decide +kernel⟩
theorem zkw_Mo_perform : zz_kv zy_Mo_perform zc_Mo_perform 6 (some .int) 2 := ⟨zz_in 963 (by decide +kernel) rfl, zz_in 32 (by decide +kernel) rfl, zz_in 57 (by decide +kernel) rfl, zz_in 964 (by decide +kernel) rfl, by decide +kernel, by decide +kernel, by decide +kernel⟩
theorem zkw_Mo_run : zz_kv zy_Mo_run zc_Mo_run 6 (some .int) 1 := ⟨zz_in 938 (by decide +kernel) rfl, zz_in 939 (by decide +kernel) rfl, zz_in 57 (by decide +kernel) rfl, zz_in 940 (by decide +kernel) rfl, by decide +kernel, by decide +kernel, by decide +kernel⟩
theorem zkw_Mo_leads : zz_kv zy_Mo_leads zc_Mo_leads 3 (some .int) 2 := ⟨zz_in 1036 (by decide +kernel) rfl, zz_in 43 (by decide +kernel) rfl, zz_in 57 (by decide +kernel) rfl, zz_in 1037 (by decide +kernel) rfl, by decide +kernel, by decide +kernel, by decide +kernel⟩
theorem zkw_Mo_wordsLead : zz_kv zy_Mo_wordsLead zc_Mo_wordsLead 7 (some .int) 3 := ⟨zz_in 1032 (by decide +kernel) rfl, zz_in 42 (by decide +kernel) rfl, zz_in 57 (by decide +kernel) rfl, zz_in 1033 (by decide +kernel) rfl, by decide +kernel, by decide +kernel, by decide +kernel⟩
theorem zkw_Mo_rootsLead : zz_kv zy_Mo_rootsLead zc_Mo_rootsLead 5 (some .int) 1 := ⟨zz_in 1028 (by decide +kernel) rfl, zz_in 41 (by decide +kernel) rfl, zz_in 57 (by decide +kernel) rfl, zz_in 1029 (by decide +kernel) rfl, by decide +kernel, by decide +kernel, by decide +kernel⟩
theorem zkw_Mo_blockLeads : zz_kv zy_Mo_blockLeads zc_Mo_blockLeads 3 (some .int) 2 := ⟨zz_in 1044 (by decide +kernel) rfl, zz_in 45 (by decide +kernel) rfl, zz_in 57 (by decide +kernel) rfl, zz_in 1045 (by decide +kernel) rfl, by decide +kernel, by decide +kernel, by decide +kernel⟩
theorem zkw_Mo_led : zz_kv zy_Mo_led zc_Mo_led 5 (some .boolean) 3 := ⟨zz_in 1040 (by decide +kernel) rfl, zz_in 44 (by decide +kernel) rfl, zz_in 57 (by decide +kernel) rfl, zz_in 1041 (by decide +kernel) rfl, by decide +kernel, by decide +kernel, by decide +kernel⟩
theorem zkw_Mo_drag : zz_kv zy_Mo_drag zc_Mo_drag 7 none 1 := ⟨zz_in 1048 (by decide +kernel) rfl, zz_in 46 (by decide +kernel) rfl, zz_in 57 (by decide +kernel) rfl, zz_in 1049 (by decide +kernel) rfl, by decide +kernel, by decide +kernel, by decide +kernel⟩
theorem zkw_Mo_scan : zz_kv zy_Mo_scan zc_Mo_scan 3 none 0 := ⟨zz_in 1024 (by decide +kernel) rfl, zz_in 40 (by decide +kernel) rfl, zz_in 57 (by decide +kernel) rfl, zz_in 1025 (by decide +kernel) rfl, by decide +kernel, by decide +kernel, by decide +kernel⟩
theorem zkw_Mo_register : zz_kv zy_Mo_register zc_Mo_register 3 (some .int) 2 := ⟨zz_in 1003 (by decide +kernel) rfl, zz_in 1004 (by decide +kernel) rfl, zz_in 57 (by decide +kernel) rfl, zz_in 1005 (by decide +kernel) rfl, by decide +kernel, by decide +kernel, by decide +kernel⟩
theorem zkw_Mo_memory : zz_kv zy_Mo_memory zc_Mo_memory 3 (some .int) 2 := ⟨zz_in 1007 (by decide +kernel) rfl, zz_in 1008 (by decide +kernel) rfl, zz_in 57 (by decide +kernel) rfl, zz_in 1009 (by decide +kernel) rfl, by decide +kernel, by decide +kernel, by decide +kernel⟩
theorem zkw_Mo_poke : zz_kv zy_Mo_poke zc_Mo_poke 3 none 2 := ⟨zz_in 1011 (by decide +kernel) rfl, zz_in 1012 (by decide +kernel) rfl, zz_in 57 (by decide +kernel) rfl, zz_in 1013 (by decide +kernel) rfl, by decide +kernel, by decide +kernel, by decide +kernel⟩
theorem zkw_Mo_finding : zz_kv zy_Mo_finding zc_Mo_finding 3 (some .int) 2 := ⟨zz_in 1015 (by decide +kernel) rfl, zz_in 1016 (by decide +kernel) rfl, zz_in 57 (by decide +kernel) rfl, zz_in 1017 (by decide +kernel) rfl, by decide +kernel, by decide +kernel, by decide +kernel⟩
theorem zkw_Mo_block : zz_kv zy_Mo_block zc_Mo_block 4 (some .int) 2 := ⟨zz_in 1019 (by decide +kernel) rfl, zz_in 1020 (by decide +kernel) rfl, zz_in 57 (by decide +kernel) rfl, zz_in 1021 (by decide +kernel) rfl, by decide +kernel, by decide +kernel, by decide +kernel⟩
theorem zkw_Mo_leaks : zz_kv zy_Mo_leaks zc_Mo_leaks 4 (some .int) 1 := ⟨zz_in 1051 (by decide +kernel) rfl, zz_in 1052 (by decide +kernel) rfl, zz_in 57 (by decide +kernel) rfl, zz_in 1053 (by decide +kernel) rfl, by decide +kernel, by decide +kernel, by decide +kernel⟩
theorem zkw_Mo_count : zz_kv zy_Mo_count zc_Mo_count 5 (some .int) 1 := ⟨zz_in 1055 (by decide +kernel) rfl, zz_in 1056 (by decide +kernel) rfl, zz_in 57 (by decide +kernel) rfl, zz_in 1057 (by decide +kernel) rfl, by decide +kernel, by decide +kernel, by decide +kernel⟩
theorem zl_Mo_79 : Cond.methodLink zR_Mo 79 zy_Mo_in ∈ zz_WS := zz_in 914 (by decide +kernel) rfl
theorem zl_Mo_83 : Cond.methodLink zR_Mo 83 zy_Mo_ends ∈ zz_WS := zz_in 925 (by decide +kernel) rfl
theorem zl_Mo_87 : Cond.methodLink zR_Mo 87 zy_Mo_bad ∈ zz_WS := zz_in 917 (by decide +kernel) rfl
theorem zl_Mo_91 : Cond.methodLink zR_Mo 91 zy_Mo_endOf ∈ zz_WS := zz_in 921 (by decide +kernel) rfl
theorem zl_Mo_98 : Cond.methodLink zR_Mo 98 zy_Mo_put ∈ zz_WS := zz_in 933 (by decide +kernel) rfl
theorem zl_Mo_105 : Cond.methodLink zR_Mo 105 zy_Mo_lowest ∈ zz_WS := zz_in 996 (by decide +kernel) rfl
theorem zl_Mo_108 : Cond.methodLink zR_Mo 108 zy_Mo_bytes ∈ zz_WS := zz_in 999 (by decide +kernel) rfl
theorem zl_Mo_112 : Cond.methodLink zR_Mo 112 zy_Mo_note ∈ zz_WS := zz_in 945 (by decide +kernel) rfl
theorem zl_Mo_116 : Cond.methodLink zR_Mo 116 zy_Mo_closed ∈ zz_WS := zz_in 949 (by decide +kernel) rfl
theorem zl_Mo_119 : Cond.methodLink zR_Mo 119 zy_Mo_word ∈ zz_WS := zz_in 953 (by decide +kernel) rfl
theorem zl_Mo_122 : Cond.methodLink zR_Mo 122 zy_Mo_wordKnown ∈ zz_WS := zz_in 957 (by decide +kernel) rfl
theorem zl_Mo_128 : Cond.methodLink zR_Mo 128 zy_Mo_room ∈ zz_WS := zz_in 969 (by decide +kernel) rfl
theorem zl_Mo_131 : Cond.methodLink zR_Mo 131 zy_Mo_free ∈ zz_WS := zz_in 972 (by decide +kernel) rfl
theorem zl_Mo_138 : Cond.methodLink zR_Mo 138 zy_Mo_mark ∈ zz_WS := zz_in 976 (by decide +kernel) rfl
theorem zl_Mo_144 : Cond.methodLink zR_Mo 144 zy_Mo_resting ∈ zz_WS := zz_in 984 (by decide +kernel) rfl
theorem zl_Mo_148 : Cond.methodLink zR_Mo 148 zy_Mo_forget ∈ zz_WS := zz_in 988 (by decide +kernel) rfl
theorem zl_Mo_151 : Cond.methodLink zR_Mo 151 zy_Mo_ask ∈ zz_WS := zz_in 965 (by decide +kernel) rfl
theorem zl_Mo_154 : Cond.methodLink zR_Mo 154 zy_Mo_give ∈ zz_WS := zz_in 980 (by decide +kernel) rfl
theorem zl_Mo_158 : Cond.methodLink zR_Mo 158 zy_Mo_compute ∈ zz_WS := zz_in 992 (by decide +kernel) rfl
theorem zl_Mo_164 : Cond.methodLink zR_Mo 164 zy_Mo_access ∈ zz_WS := zz_in 941 (by decide +kernel) rfl
theorem zl_Mo_170 : Cond.methodLink zR_Mo 170 zy_Mo_perform ∈ zz_WS := zz_in 961 (by decide +kernel) rfl
theorem zl_Mo_173 : Cond.methodLink zR_Mo 173 zy_Mo_leads ∈ zz_WS := zz_in 1034 (by decide +kernel) rfl
theorem zl_Mo_176 : Cond.methodLink zR_Mo 176 zy_Mo_wordsLead ∈ zz_WS := zz_in 1030 (by decide +kernel) rfl
theorem zl_Mo_180 : Cond.methodLink zR_Mo 180 zy_Mo_blockLeads ∈ zz_WS := zz_in 1042 (by decide +kernel) rfl
theorem zl_Mo_183 : Cond.methodLink zR_Mo 183 zy_Mo_rootsLead ∈ zz_WS := zz_in 1026 (by decide +kernel) rfl
theorem zl_Mo_186 : Cond.methodLink zR_Mo 186 zy_Mo_led ∈ zz_WS := zz_in 1038 (by decide +kernel) rfl
theorem zl_Mo_189 : Cond.methodLink zR_Mo 189 zy_Mo_drag ∈ zz_WS := zz_in 1046 (by decide +kernel) rfl
theorem zl_Mo_192 : Cond.methodLink zR_Mo 192 zy_Mo_scan ∈ zz_WS := zz_in 1022 (by decide +kernel) rfl
