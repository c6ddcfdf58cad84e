def zz_WS : List Cond := lw_tbl.filter goodWord
theorem zz_good (w : Cond) (h : w ∈ zz_WS) : (w.onTables && w.keeps) = true ∨ ∃ ty, w = .arrayClass ty := good_of_word (List.mem_filter.mp h).2
theorem zz_in {w : Cond} (i : Nat) (h : lw_tbl[i]? = some w) (g : goodWord w = true) : w ∈ zz_WS := List.mem_filter.mpr ⟨List.mem_of_getElem? h, g⟩
theorem zz_sub {ws : List Cond} (h : ws.all (fun w => decide (w ∈ lw_tbl) && goodWord w) = true) : ∀ w ∈ ws, w ∈ zz_WS := fun w hw => by
  have h1 := List.all_eq_true.mp h w hw
  simp only [Bool.and_eq_true, decide_eq_true_eq] at h1
  exact List.mem_filter.mpr h1
def zR_SW : String := "ShadowWarden"
def zT_SW : u_T := fun k => match k with
  | 0 => ("ShadowWarden", "bytes", "LShadowWarden$Memory;", true)
  | 1 => ("ShadowWarden", "registers", "LShadowWarden$Registers;", true)
  | 2 => ("ShadowWarden", "program", "LShadowWarden$Program;", true)
  | 3 => ("ShadowWarden", "pieces", "LShadowWarden$Pieces;", true)
  | 4 => ("ShadowWarden", "findings", "LShadowWarden$Findings;", true)
  | 5 => ("ShadowWarden", "heap", "LShadowWarden$Heap;", true)
  | 6 => ("ShadowWarden", "scan", "LShadowWarden$LeakScan;", true)
  | _ => ("ShadowWarden", "machine", "LShadowWarden$Machine;", true)
def zt_SW : Nat → FieldType := fun k => match k with
  | 0 => .object "ShadowWarden$Memory"
  | 1 => .object "ShadowWarden$Registers"
  | 2 => .object "ShadowWarden$Program"
  | 3 => .object "ShadowWarden$Pieces"
  | 4 => .object "ShadowWarden$Findings"
  | 5 => .object "ShadowWarden$Heap"
  | 6 => .object "ShadowWarden$LeakScan"
  | _ => .object "ShadowWarden$Machine"
theorem zn_SW : ∀ a, a < 8 → ∀ b, b < 8 → a ≠ b → (zT_SW a).2.1 ≠ (zT_SW b).2.1 := by decide +kernel
theorem zo_SW : ∀ k, k < 8 → parseFieldDescriptor (zT_SW k).2.2.1 = some (zt_SW k) := by decide +kernel
theorem zi_SW : ∀ w ∈ u_ws zR_SW zT_SW 8, w ∈ zz_WS := zz_sub (by decide +kernel)
def zR_Me : String := "ShadowWarden$Memory"
def zT_Me : u_T := fun k => match k with
  | 0 => ("ShadowWarden$Memory", "values", "[I", true)
  | 1 => ("ShadowWarden$Memory", "open", "[Z", true)
  | _ => ("ShadowWarden$Memory", "known", "[Z", true)
def zt_Me : Nat → FieldType := fun k => match k with
  | 0 => .array .int
  | 1 => .array .boolean
  | _ => .array .boolean
theorem zn_Me : ∀ a, a < 3 → ∀ b, b < 3 → a ≠ b → (zT_Me a).2.1 ≠ (zT_Me b).2.1 := by decide +kernel
theorem zo_Me : ∀ k, k < 3 → parseFieldDescriptor (zT_Me k).2.2.1 = some (zt_Me k) := by decide +kernel
theorem zi_Me : ∀ w ∈ u_ws zR_Me zT_Me 3, w ∈ zz_WS := zz_sub (by decide +kernel)
def zR_Re : String := "ShadowWarden$Registers"
def zT_Re : u_T := fun k => match k with
  | 0 => ("ShadowWarden$Registers", "values", "[I", true)
  | _ => ("ShadowWarden$Registers", "known", "[I", true)
def zt_Re : Nat → FieldType := fun k => match k with
  | 0 => .array .int
  | _ => .array .int
theorem zn_Re : ∀ a, a < 2 → ∀ b, b < 2 → a ≠ b → (zT_Re a).2.1 ≠ (zT_Re b).2.1 := by decide +kernel
theorem zo_Re : ∀ k, k < 2 → parseFieldDescriptor (zT_Re k).2.2.1 = some (zt_Re k) := by decide +kernel
theorem zi_Re : ∀ w ∈ u_ws zR_Re zT_Re 2, w ∈ zz_WS := zz_sub (by decide +kernel)
def zR_Pr : String := "ShadowWarden$Program"
def zT_Pr : u_T := fun k => match k with
  | 0 => ("ShadowWarden$Program", "ops", "[I", true)
  | 1 => ("ShadowWarden$Program", "targets", "[I", true)
  | 2 => ("ShadowWarden$Program", "firsts", "[I", true)
  | 3 => ("ShadowWarden$Program", "seconds", "[I", true)
  | _ => ("ShadowWarden$Program", "numbers", "[I", true)
def zt_Pr : Nat → FieldType := fun k => match k with
  | 0 => .array .int
  | 1 => .array .int
  | 2 => .array .int
  | 3 => .array .int
  | _ => .array .int
theorem zn_Pr : ∀ a, a < 5 → ∀ b, b < 5 → a ≠ b → (zT_Pr a).2.1 ≠ (zT_Pr b).2.1 := by decide +kernel
theorem zo_Pr : ∀ k, k < 5 → parseFieldDescriptor (zT_Pr k).2.2.1 = some (zt_Pr k) := by decide +kernel
theorem zi_Pr : ∀ w ∈ u_ws zR_Pr zT_Pr 5, w ∈ zz_WS := zz_sub (by decide +kernel)
def zR_Pi : String := "ShadowWarden$Pieces"
def zT_Pi : u_T := fun k => match k with
  | 0 => ("ShadowWarden$Pieces", "program", "LShadowWarden$Program;", true)
  | 1 => ("ShadowWarden$Pieces", "lengths", "[I", true)
  | 2 => ("ShadowWarden$Pieces", "translated", "I", false)
  | _ => ("ShadowWarden$Pieces", "leftOfPieceAtHand", "I", false)
def zt_Pi : Nat → FieldType := fun k => match k with
  | 0 => .object "ShadowWarden$Program"
  | 1 => .array .int
  | 2 => .int
  | _ => .int
theorem zn_Pi : ∀ a, a < 4 → ∀ b, b < 4 → a ≠ b → (zT_Pi a).2.1 ≠ (zT_Pi b).2.1 := by decide +kernel
theorem zo_Pi : ∀ k, k < 4 → parseFieldDescriptor (zT_Pi k).2.2.1 = some (zt_Pi k) := by decide +kernel
theorem zi_Pi : ∀ w ∈ u_ws zR_Pi zT_Pi 4, w ∈ zz_WS := zz_sub (by decide +kernel)
def zR_Fi : String := "ShadowWarden$Findings"
def zT_Fi : u_T := fun k => match k with
  | 0 => ("ShadowWarden$Findings", "kinds", "[I", true)
  | 1 => ("ShadowWarden$Findings", "instructions", "[I", true)
  | 2 => ("ShadowWarden$Findings", "addresses", "[I", true)
  | 3 => ("ShadowWarden$Findings", "times", "[I", true)
  | _ => ("ShadowWarden$Findings", "size", "I", false)
def zt_Fi : Nat → FieldType := fun k => match k with
  | 0 => .array .int
  | 1 => .array .int
  | 2 => .array .int
  | 3 => .array .int
  | _ => .int
theorem zn_Fi : ∀ a, a < 5 → ∀ b, b < 5 → a ≠ b → (zT_Fi a).2.1 ≠ (zT_Fi b).2.1 := by decide +kernel
theorem zo_Fi : ∀ k, k < 5 → parseFieldDescriptor (zT_Fi k).2.2.1 = some (zt_Fi k) := by decide +kernel
theorem zi_Fi : ∀ w ∈ u_ws zR_Fi zT_Fi 5, w ∈ zz_WS := zz_sub (by decide +kernel)
def zR_He : String := "ShadowWarden$Heap"
def zT_He : u_T := fun k => match k with
  | 0 => ("ShadowWarden$Heap", "bytes", "LShadowWarden$Memory;", true)
  | 1 => ("ShadowWarden$Heap", "numbers", "[I", true)
  | 2 => ("ShadowWarden$Heap", "addresses", "[I", true)
  | 3 => ("ShadowWarden$Heap", "sizes", "[I", true)
  | 4 => ("ShadowWarden$Heap", "wallEnds", "[I", true)
  | 5 => ("ShadowWarden$Heap", "restingSince", "[I", true)
  | 6 => ("ShadowWarden$Heap", "there", "I", false)
  | 7 => ("ShadowWarden$Heap", "got", "I", false)
  | _ => ("ShadowWarden$Heap", "givenBack", "I", false)
def zt_He : Nat → FieldType := fun k => match k with
  | 0 => .object "ShadowWarden$Memory"
  | 1 => .array .int
  | 2 => .array .int
  | 3 => .array .int
  | 4 => .array .int
  | 5 => .array .int
  | 6 => .int
  | 7 => .int
  | _ => .int
theorem zn_He : ∀ a, a < 9 → ∀ b, b < 9 → a ≠ b → (zT_He a).2.1 ≠ (zT_He b).2.1 := by decide +kernel
theorem zo_He : ∀ k, k < 9 → parseFieldDescriptor (zT_He k).2.2.1 = some (zt_He k) := by decide +kernel
theorem zi_He : ∀ w ∈ u_ws zR_He zT_He 9, w ∈ zz_WS := zz_sub (by decide +kernel)
def zR_LS : String := "ShadowWarden$LeakScan"
def zT_LS : u_T := fun k => match k with
  | 0 => ("ShadowWarden$LeakScan", "bytes", "LShadowWarden$Memory;", true)
  | 1 => ("ShadowWarden$LeakScan", "registers", "LShadowWarden$Registers;", true)
  | 2 => ("ShadowWarden$LeakScan", "heap", "LShadowWarden$Heap;", true)
  | 3 => ("ShadowWarden$LeakScan", "verdicts", "[I", true)
  | 4 => ("ShadowWarden$LeakScan", "found", "[I", true)
  | _ => ("ShadowWarden$LeakScan", "foundSize", "I", false)
def zt_LS : Nat → FieldType := fun k => match k with
  | 0 => .object "ShadowWarden$Memory"
  | 1 => .object "ShadowWarden$Registers"
  | 2 => .object "ShadowWarden$Heap"
  | 3 => .array .int
  | 4 => .array .int
  | _ => .int
theorem zn_LS : ∀ a, a < 6 → ∀ b, b < 6 → a ≠ b → (zT_LS a).2.1 ≠ (zT_LS b).2.1 := by decide +kernel
theorem zo_LS : ∀ k, k < 6 → parseFieldDescriptor (zT_LS k).2.2.1 = some (zt_LS k) := by decide +kernel
theorem zi_LS : ∀ w ∈ u_ws zR_LS zT_LS 6, w ∈ zz_WS := zz_sub (by decide +kernel)
def zR_Ma : String := "ShadowWarden$Machine"
def zT_Ma : u_T := fun k => match k with
  | 0 => ("ShadowWarden$Machine", "bytes", "LShadowWarden$Memory;", true)
  | 1 => ("ShadowWarden$Machine", "registers", "LShadowWarden$Registers;", true)
  | 2 => ("ShadowWarden$Machine", "program", "LShadowWarden$Program;", true)
  | 3 => ("ShadowWarden$Machine", "pieces", "LShadowWarden$Pieces;", true)
  | 4 => ("ShadowWarden$Machine", "findings", "LShadowWarden$Findings;", true)
  | 5 => ("ShadowWarden$Machine", "heap", "LShadowWarden$Heap;", true)
  | 6 => ("ShadowWarden$Machine", "at", "I", false)
  | 7 => ("ShadowWarden$Machine", "next", "I", false)
  | 8 => ("ShadowWarden$Machine", "stopped", "Z", false)
  | 9 => ("ShadowWarden$Machine", "faulted", "Z", false)
  | _ => ("ShadowWarden$Machine", "done", "I", false)
def zt_Ma : Nat → FieldType := fun k => match k with
  | 0 => .object "ShadowWarden$Memory"
  | 1 => .object "ShadowWarden$Registers"
  | 2 => .object "ShadowWarden$Program"
  | 3 => .object "ShadowWarden$Pieces"
  | 4 => .object "ShadowWarden$Findings"
  | 5 => .object "ShadowWarden$Heap"
  | 6 => .int
  | 7 => .int
  | 8 => .boolean
  | 9 => .boolean
  | _ => .int
theorem zn_Ma : ∀ a, a < 11 → ∀ b, b < 11 → a ≠ b → (zT_Ma a).2.1 ≠ (zT_Ma b).2.1 := by decide +kernel
theorem zo_Ma : ∀ k, k < 11 → parseFieldDescriptor (zT_Ma k).2.2.1 = some (zt_Ma k) := by decide +kernel
theorem zi_Ma : ∀ w ∈ u_ws zR_Ma zT_Ma 11, w ∈ zz_WS := zz_sub (by decide +kernel)
def zR_Mo : String := "ShadowWardenModel"
def zT_Mo : u_T := fun k => match k with
  | 0 => ("ShadowWardenModel", "op", "[I", true)
  | 1 => ("ShadowWardenModel", "d", "[I", true)
  | 2 => ("ShadowWardenModel", "a", "[I", true)
  | 3 => ("ShadowWardenModel", "b", "[I", true)
  | 4 => ("ShadowWardenModel", "n", "[I", true)
  | 5 => ("ShadowWardenModel", "memory", "[I", true)
  | 6 => ("ShadowWardenModel", "open", "[I", true)
  | 7 => ("ShadowWardenModel", "known", "[I", true)
  | 8 => ("ShadowWardenModel", "register", "[I", true)
  | 9 => ("ShadowWardenModel", "sure", "[I", true)
  | 10 => ("ShadowWardenModel", "number", "[I", true)
  | 11 => ("ShadowWardenModel", "address", "[I", true)
  | 12 => ("ShadowWardenModel", "size", "[I", true)
  | 13 => ("ShadowWardenModel", "rests", "[I", true)
  | 14 => ("ShadowWardenModel", "seen", "[I", true)
  | 15 => ("ShadowWardenModel", "kind", "[I", true)
  | 16 => ("ShadowWardenModel", "at", "[I", true)
  | 17 => ("ShadowWardenModel", "where", "[I", true)
  | 18 => ("ShadowWardenModel", "often", "[I", true)
  | 19 => ("ShadowWardenModel", "piece", "[Z", true)
  | 20 => ("ShadowWardenModel", "blocks", "I", false)
  | 21 => ("ShadowWardenModel", "got", "I", false)
  | 22 => ("ShadowWardenModel", "clock", "I", false)
  | 23 => ("ShadowWardenModel", "findings", "I", false)
  | 24 => ("ShadowWardenModel", "place", "I", false)
  | 25 => ("ShadowWardenModel", "done", "I", false)
  | 26 => ("ShadowWardenModel", "translated", "I", false)
  | 27 => ("ShadowWardenModel", "thrown", "I", false)
  | _ => ("ShadowWardenModel", "stopped", "Z", false)
def zt_Mo : Nat → FieldType := fun k => match k with
  | 0 => .array .int
  | 1 => .array .int
  | 2 => .array .int
  | 3 => .array .int
  | 4 => .array .int
  | 5 => .array .int
  | 6 => .array .int
  | 7 => .array .int
  | 8 => .array .int
  | 9 => .array .int
  | 10 => .array .int
  | 11 => .array .int
  | 12 => .array .int
  | 13 => .array .int
  | 14 => .array .int
  | 15 => .array .int
  | 16 => .array .int
  | 17 => .array .int
  | 18 => .array .int
  | 19 => .array .boolean
  | 20 => .int
  | 21 => .int
  | 22 => .int
  | 23 => .int
  | 24 => .int
  | 25 => .int
  | 26 => .int
  | 27 => .int
  | _ => .boolean
theorem zn_Mo : ∀ a, a < 29 → ∀ b, b < 29 → a ≠ b → (zT_Mo a).2.1 ≠ (zT_Mo b).2.1 := by decide +kernel
theorem zo_Mo : ∀ k, k < 29 → parseFieldDescriptor (zT_Mo k).2.2.1 = some (zt_Mo k) := by decide +kernel
theorem zi_Mo : ∀ w ∈ u_ws zR_Mo zT_Mo 29, w ∈ zz_WS := zz_sub (by decide +kernel)
def zR_Kn : String := "ShadowWarden$Known"
def zR_La : String := "ShadowWardenLaw"
def zR_Mt : String := "java/lang/Math"
abbrev vwCl : List vw_C := [(zR_SW, zT_SW, 8), (zR_Me, zT_Me, 3), (zR_Re, zT_Re, 2), (zR_Pr, zT_Pr, 5), (zR_Pi, zT_Pi, 4), (zR_Fi, zT_Fi, 5), (zR_He, zT_He, 9), (zR_LS, zT_LS, 6), (zR_Ma, zT_Ma, 11), (zR_Mo, zT_Mo, 29)]
