/-- the words that a callee may lean on -/
def gtb : List Cond := lw_tbl.filter goodWord
theorem gdm {w : Cond} (h : w ∈ lw_tbl) (hg : goodWord w = true) : w ∈ gtb := List.mem_filter.mpr ⟨h, hg⟩
theorem gd_tbl : GoodIn gtb gtb := fun w h => ⟨h, good_of_word (List.mem_filter.mp h).2⟩
/-- a method's words: its code, and those of the tables -/
def mws (y : MethodName) (cc : ByteArray) (n : Nat) (r : Option FieldType) : List Cond := Cond.code y cc n r :: gtb
theorem gd_c {y : MethodName} {cc : ByteArray} {n : Nat} {r : Option FieldType} (h : Cond.code y cc n r ∈ gtb) : GoodIn gtb (mws y cc n r) := fun w hw => (List.mem_cons.mp hw).elim (fun e => e ▸ gd_tbl _ h) (gd_tbl w)
/-- links to nest mates' own members: they go along from call to call as facts of their own -/
def nwl : List (String × Nat × MethodName × String) := [("GrateLayers", 23, ⟨"GrateLayers$Furnace", "<init>", "()V"⟩, "GrateLayers"), ("GrateLayers", 36, ⟨"GrateLayers$Mixer", "<init>", "()V"⟩, "GrateLayers"), ("GrateLayers$Grate", 37, ⟨"GrateLayers", "within", "(III)Z"⟩, "GrateLayers"), ("GrateLayers$Grate", 47, ⟨"GrateLayers$Zone", "<init>", "()V"⟩, "GrateLayers"), ("GrateLayers", 61, ⟨"GrateLayers$Kind", "<init>", "()V"⟩, "GrateLayers"), ("GrateLayers", 62, ⟨"GrateLayers$Cell", "<init>", "()V"⟩, "GrateLayers"), ("GrateLayers", 63, ⟨"GrateLayers$Controller", "<init>", "()V"⟩, "GrateLayers"), ("GrateLayers$Grate", 51, ⟨"GrateLayers", "thousandths", "(JI)J"⟩, "GrateLayers"), ("GrateLayers$Zone", 28, ⟨"GrateLayers", "thousandths", "(JI)J"⟩, "GrateLayers"), ("GrateLayers$Furnace", 45, ⟨"GrateLayers", "thousandths", "(JI)J"⟩, "GrateLayers"), ("GrateLayers$Controller", 36, ⟨"GrateLayers", "cut", "(JJJ)J"⟩, "GrateLayers")]
def nst (U : State) : Prop := ∀ q ∈ nwl, va_Nw (.methodLinkNest q.1 q.2.1 q.2.2.1 q.2.2.2) U
theorem nst.warm {s U : State} (hW : s.WarmedH U.vm) (h : nst s) : nst U := fun q hq => va_Nw.warmM hW (h q hq)
theorem nst.same {s U : State} (hv : s.vm = U.vm) (h : nst s) : nst U := fun q hq => va_Nw.same rfl hv (h q hq)
theorem wn_GL_23 {U : State} (h : nst U) : va_Nw (.methodLinkNest "GrateLayers" 23 ⟨"GrateLayers$Furnace", "<init>", "()V"⟩ "GrateLayers") U := h _ (List.mem_of_getElem? (i := 0) rfl)
theorem wn_GL_36 {U : State} (h : nst U) : va_Nw (.methodLinkNest "GrateLayers" 36 ⟨"GrateLayers$Mixer", "<init>", "()V"⟩ "GrateLayers") U := h _ (List.mem_of_getElem? (i := 1) rfl)
theorem wn_Gr_37 {U : State} (h : nst U) : va_Nw (.methodLinkNest "GrateLayers$Grate" 37 ⟨"GrateLayers", "within", "(III)Z"⟩ "GrateLayers") U := h _ (List.mem_of_getElem? (i := 2) rfl)
theorem wn_Gr_47 {U : State} (h : nst U) : va_Nw (.methodLinkNest "GrateLayers$Grate" 47 ⟨"GrateLayers$Zone", "<init>", "()V"⟩ "GrateLayers") U := h _ (List.mem_of_getElem? (i := 3) rfl)
theorem wn_GL_61 {U : State} (h : nst U) : va_Nw (.methodLinkNest "GrateLayers" 61 ⟨"GrateLayers$Kind", "<init>", "()V"⟩ "GrateLayers") U := h _ (List.mem_of_getElem? (i := 4) rfl)
theorem wn_GL_62 {U : State} (h : nst U) : va_Nw (.methodLinkNest "GrateLayers" 62 ⟨"GrateLayers$Cell", "<init>", "()V"⟩ "GrateLayers") U := h _ (List.mem_of_getElem? (i := 5) rfl)
theorem wn_GL_63 {U : State} (h : nst U) : va_Nw (.methodLinkNest "GrateLayers" 63 ⟨"GrateLayers$Controller", "<init>", "()V"⟩ "GrateLayers") U := h _ (List.mem_of_getElem? (i := 6) rfl)
theorem wn_Gr_51 {U : State} (h : nst U) : va_Nw (.methodLinkNest "GrateLayers$Grate" 51 ⟨"GrateLayers", "thousandths", "(JI)J"⟩ "GrateLayers") U := h _ (List.mem_of_getElem? (i := 7) rfl)
theorem wn_Zo_28 {U : State} (h : nst U) : va_Nw (.methodLinkNest "GrateLayers$Zone" 28 ⟨"GrateLayers", "thousandths", "(JI)J"⟩ "GrateLayers") U := h _ (List.mem_of_getElem? (i := 8) rfl)
theorem wn_Fu_45 {U : State} (h : nst U) : va_Nw (.methodLinkNest "GrateLayers$Furnace" 45 ⟨"GrateLayers", "thousandths", "(JI)J"⟩ "GrateLayers") U := h _ (List.mem_of_getElem? (i := 9) rfl)
theorem wn_Ct_36 {U : State} (h : nst U) : va_Nw (.methodLinkNest "GrateLayers$Controller" 36 ⟨"GrateLayers", "cut", "(JJJ)J"⟩ "GrateLayers") U := h _ (List.mem_of_getElem? (i := 10) rfl)
abbrev R_GL : String := "GrateLayers"
abbrev R_Ce : String := "GrateLayers$Cell"
abbrev R_Ct : String := "GrateLayers$Controller"
abbrev R_Fu : String := "GrateLayers$Furnace"
abbrev R_Gr : String := "GrateLayers$Grate"
abbrev R_Ki : String := "GrateLayers$Kind"
abbrev R_Mi : String := "GrateLayers$Mixer"
abbrev R_Zo : String := "GrateLayers$Zone"
abbrev R_Mo : String := "GrateLayersModel"
abbrev R_Law : String := "GrateLayersLaw"
abbrev R_Ma : String := "java/lang/Math"
def T_GL : u_T := fun k => match k with
  | 0 => ("GrateLayers", "kinds", "[LGrateLayers$Kind;", true)
  | 1 => ("GrateLayers", "cells", "[LGrateLayers$Cell;", true)
  | 2 => ("GrateLayers", "grate", "LGrateLayers$Grate;", true)
  | 3 => ("GrateLayers", "furnace", "LGrateLayers$Furnace;", true)
  | 4 => ("GrateLayers", "controllers", "[LGrateLayers$Controller;", true)
  | 5 => ("GrateLayers", "mixer", "LGrateLayers$Mixer;", true)
  | 6 => ("GrateLayers", "grabSize", "I", false)
  | 7 => ("GrateLayers", "nextMinute", "I", false)
  | _ => ("GrateLayers", "bunkered", "J", false)
def t_GL : Nat → FieldType := fun k => match k with
  | 0 => .array (.object "GrateLayers$Kind")
  | 1 => .array (.object "GrateLayers$Cell")
  | 2 => .object "GrateLayers$Grate"
  | 3 => .object "GrateLayers$Furnace"
  | 4 => .array (.object "GrateLayers$Controller")
  | 5 => .object "GrateLayers$Mixer"
  | 6 => .int
  | 7 => .int
  | _ => .long
theorem n_GL : ∀ a, a < 9 → ∀ b, b < 9 → a ≠ b → (T_GL a).2.1 ≠ (T_GL b).2.1 := by decide +kernel
theorem t_GL_ok : ∀ k, k < 9 → parseFieldDescriptor (T_GL k).2.2.1 = some (t_GL k) := by decide +kernel
theorem i0_GL : ∀ w ∈ u_ws R_GL T_GL 9, w ∈ lw_tbl := by decide +kernel
theorem i1_GL : ∀ w ∈ u_ws R_GL T_GL 9, goodWord w = true := by decide +kernel
theorem i_GL : ∀ w ∈ u_ws R_GL T_GL 9, w ∈ gtb := fun w h => gdm (i0_GL w h) (i1_GL w h)
def T_Ce : u_T := fun k => match k with
  | _ => ("GrateLayers$Cell", "kilograms", "[I", true)
def t_Ce : Nat → FieldType := fun k => match k with
  | _ => .array (.int)
theorem n_Ce : ∀ a, a < 1 → ∀ b, b < 1 → a ≠ b → (T_Ce a).2.1 ≠ (T_Ce b).2.1 := by decide +kernel
theorem t_Ce_ok : ∀ k, k < 1 → parseFieldDescriptor (T_Ce k).2.2.1 = some (t_Ce k) := by decide +kernel
theorem i0_Ce : ∀ w ∈ u_ws R_Ce T_Ce 1, w ∈ lw_tbl := by decide +kernel
theorem i1_Ce : ∀ w ∈ u_ws R_Ce T_Ce 1, goodWord w = true := by decide +kernel
theorem i_Ce : ∀ w ∈ u_ws R_Ce T_Ce 1, w ∈ gtb := fun w h => gdm (i0_Ce w h) (i1_Ce w h)
def T_Ct : u_T := fun k => match k with
  | 0 => ("GrateLayers$Controller", "told", "Z", false)
  | 1 => ("GrateLayers$Controller", "output", "I", false)
  | 2 => ("GrateLayers$Controller", "target", "I", false)
  | 3 => ("GrateLayers$Controller", "p", "I", false)
  | 4 => ("GrateLayers$Controller", "i", "I", false)
  | _ => ("GrateLayers$Controller", "sum", "J", false)
def t_Ct : Nat → FieldType := fun k => match k with
  | 0 => .boolean
  | 1 => .int
  | 2 => .int
  | 3 => .int
  | 4 => .int
  | _ => .long
theorem n_Ct : ∀ a, a < 6 → ∀ b, b < 6 → a ≠ b → (T_Ct a).2.1 ≠ (T_Ct b).2.1 := by decide +kernel
theorem t_Ct_ok : ∀ k, k < 6 → parseFieldDescriptor (T_Ct k).2.2.1 = some (t_Ct k) := by decide +kernel
theorem i0_Ct : ∀ w ∈ u_ws R_Ct T_Ct 6, w ∈ lw_tbl := by decide +kernel
theorem i1_Ct : ∀ w ∈ u_ws R_Ct T_Ct 6, goodWord w = true := by decide +kernel
theorem i_Ct : ∀ w ∈ u_ws R_Ct T_Ct 6, w ∈ gtb := fun w h => gdm (i0_Ct w h) (i1_Ct w h)
def T_Fu : u_T := fun k => match k with
  | 0 => ("GrateLayers$Furnace", "heat", "J", false)
  | 1 => ("GrateLayers$Furnace", "boiler", "I", false)
  | 2 => ("GrateLayers$Furnace", "steam", "J", false)
  | 3 => ("GrateLayers$Furnace", "burnerTold", "Z", false)
  | 4 => ("GrateLayers$Furnace", "burnerBurnt", "Z", false)
  | 5 => ("GrateLayers$Furnace", "burnerBelow", "I", false)
  | 6 => ("GrateLayers$Furnace", "burnerHeat", "I", false)
  | 7 => ("GrateLayers$Furnace", "fuelHeatInAll", "J", false)
  | 8 => ("GrateLayers$Furnace", "burnerHeatInAll", "J", false)
  | 9 => ("GrateLayers$Furnace", "steamInAll", "J", false)
  | _ => ("GrateLayers$Furnace", "dryingHeatInAll", "J", false)
def t_Fu : Nat → FieldType := fun k => match k with
  | 0 => .long
  | 1 => .int
  | 2 => .long
  | 3 => .boolean
  | 4 => .boolean
  | 5 => .int
  | 6 => .int
  | 7 => .long
  | 8 => .long
  | 9 => .long
  | _ => .long
theorem n_Fu : ∀ a, a < 11 → ∀ b, b < 11 → a ≠ b → (T_Fu a).2.1 ≠ (T_Fu b).2.1 := by decide +kernel
theorem t_Fu_ok : ∀ k, k < 11 → parseFieldDescriptor (T_Fu k).2.2.1 = some (t_Fu k) := by decide +kernel
theorem i0_Fu : ∀ w ∈ u_ws R_Fu T_Fu 11, w ∈ lw_tbl := by decide +kernel
theorem i1_Fu : ∀ w ∈ u_ws R_Fu T_Fu 11, goodWord w = true := by decide +kernel
theorem i_Fu : ∀ w ∈ u_ws R_Fu T_Fu 11, w ∈ gtb := fun w h => gdm (i0_Fu w h) (i1_Fu w h)
def T_Gr : u_T := fun k => match k with
  | 0 => ("GrateLayers$Grate", "zones", "[LGrateLayers$Zone;", true)
  | 1 => ("GrateLayers$Grate", "move", "I", false)
  | 2 => ("GrateLayers$Grate", "oxygen", "J", false)
  | 3 => ("GrateLayers$Grate", "burnt", "J", false)
  | 4 => ("GrateLayers$Grate", "dried", "J", false)
  | 5 => ("GrateLayers$Grate", "driedInAll", "J", false)
  | 6 => ("GrateLayers$Grate", "burntInAll", "J", false)
  | 7 => ("GrateLayers$Grate", "lostInAll", "J", false)
  | _ => ("GrateLayers$Grate", "ashInAll", "J", false)
def t_Gr : Nat → FieldType := fun k => match k with
  | 0 => .array (.object "GrateLayers$Zone")
  | 1 => .int
  | 2 => .long
  | 3 => .long
  | 4 => .long
  | 5 => .long
  | 6 => .long
  | 7 => .long
  | _ => .long
theorem n_Gr : ∀ a, a < 9 → ∀ b, b < 9 → a ≠ b → (T_Gr a).2.1 ≠ (T_Gr b).2.1 := by decide +kernel
theorem t_Gr_ok : ∀ k, k < 9 → parseFieldDescriptor (T_Gr k).2.2.1 = some (t_Gr k) := by decide +kernel
theorem i0_Gr : ∀ w ∈ u_ws R_Gr T_Gr 9, w ∈ lw_tbl := by decide +kernel
theorem i1_Gr : ∀ w ∈ u_ws R_Gr T_Gr 9, goodWord w = true := by decide +kernel
theorem i_Gr : ∀ w ∈ u_ws R_Gr T_Gr 9, w ∈ gtb := fun w h => gdm (i0_Gr w h) (i1_Gr w h)
def T_Ki : u_T := fun k => match k with
  | 0 => ("GrateLayers$Kind", "water", "I", false)
  | 1 => ("GrateLayers$Kind", "ash", "I", false)
  | _ => ("GrateLayers$Kind", "grabbed", "J", false)
def t_Ki : Nat → FieldType := fun k => match k with
  | 0 => .int
  | 1 => .int
  | _ => .long
theorem n_Ki : ∀ a, a < 3 → ∀ b, b < 3 → a ≠ b → (T_Ki a).2.1 ≠ (T_Ki b).2.1 := by decide +kernel
theorem t_Ki_ok : ∀ k, k < 3 → parseFieldDescriptor (T_Ki k).2.2.1 = some (t_Ki k) := by decide +kernel
theorem i0_Ki : ∀ w ∈ u_ws R_Ki T_Ki 3, w ∈ lw_tbl := by decide +kernel
theorem i1_Ki : ∀ w ∈ u_ws R_Ki T_Ki 3, goodWord w = true := by decide +kernel
theorem i_Ki : ∀ w ∈ u_ws R_Ki T_Ki 3, w ∈ gtb := fun w h => gdm (i0_Ki w h) (i1_Ki w h)
def T_Mi : u_T := fun k => match k with
  | 0 => ("GrateLayers$Mixer", "found", "[I", true)
  | 1 => ("GrateLayers$Mixer", "foundGrabs", "I", false)
  | 2 => ("GrateLayers$Mixer", "trial", "[I", true)
  | 3 => ("GrateLayers$Mixer", "ofThousand", "[[I", true)
  | 4 => ("GrateLayers$Mixer", "filled", "[I", true)
  | _ => ("GrateLayers$Mixer", "filledCount", "I", false)
def t_Mi : Nat → FieldType := fun k => match k with
  | 0 => .array (.int)
  | 1 => .int
  | 2 => .array (.int)
  | 3 => .array (.array (.int))
  | 4 => .array (.int)
  | _ => .int
theorem n_Mi : ∀ a, a < 6 → ∀ b, b < 6 → a ≠ b → (T_Mi a).2.1 ≠ (T_Mi b).2.1 := by decide +kernel
theorem t_Mi_ok : ∀ k, k < 6 → parseFieldDescriptor (T_Mi k).2.2.1 = some (t_Mi k) := by decide +kernel
theorem i0_Mi : ∀ w ∈ u_ws R_Mi T_Mi 6, w ∈ lw_tbl := by decide +kernel
theorem i1_Mi : ∀ w ∈ u_ws R_Mi T_Mi 6, goodWord w = true := by decide +kernel
theorem i_Mi : ∀ w ∈ u_ws R_Mi T_Mi 6, w ∈ gtb := fun w h => gdm (i0_Mi w h) (i1_Mi w h)
def T_Zo : u_T := fun k => match k with
  | 0 => ("GrateLayers$Zone", "water", "J", false)
  | 1 => ("GrateLayers$Zone", "fuel", "J", false)
  | 2 => ("GrateLayers$Zone", "ash", "J", false)
  | 3 => ("GrateLayers$Zone", "air", "I", false)
  | _ => ("GrateLayers$Zone", "drying", "I", false)
def t_Zo : Nat → FieldType := fun k => match k with
  | 0 => .long
  | 1 => .long
  | 2 => .long
  | 3 => .int
  | _ => .int
theorem n_Zo : ∀ a, a < 5 → ∀ b, b < 5 → a ≠ b → (T_Zo a).2.1 ≠ (T_Zo b).2.1 := by decide +kernel
theorem t_Zo_ok : ∀ k, k < 5 → parseFieldDescriptor (T_Zo k).2.2.1 = some (t_Zo k) := by decide +kernel
theorem i0_Zo : ∀ w ∈ u_ws R_Zo T_Zo 5, w ∈ lw_tbl := by decide +kernel
theorem i1_Zo : ∀ w ∈ u_ws R_Zo T_Zo 5, goodWord w = true := by decide +kernel
theorem i_Zo : ∀ w ∈ u_ws R_Zo T_Zo 5, w ∈ gtb := fun w h => gdm (i0_Zo w h) (i1_Zo w h)
def T_Mo : u_T := fun k => match k with
  | 0 => ("GrateLayersModel", "zones", "I", true)
  | 1 => ("GrateLayersModel", "waterShares", "[I", true)
  | 2 => ("GrateLayersModel", "ashShares", "[I", true)
  | 3 => ("GrateLayersModel", "cells", "[I", true)
  | 4 => ("GrateLayersModel", "crane", "I", false)
  | 5 => ("GrateLayersModel", "pending", "[I", true)
  | 6 => ("GrateLayersModel", "waters", "[J", true)
  | 7 => ("GrateLayersModel", "fuels", "[J", true)
  | 8 => ("GrateLayersModel", "ashes", "[J", true)
  | 9 => ("GrateLayersModel", "airs", "[I", true)
  | 10 => ("GrateLayersModel", "dryings", "[I", true)
  | 11 => ("GrateLayersModel", "move", "I", false)
  | 12 => ("GrateLayersModel", "boiler", "I", false)
  | 13 => ("GrateLayersModel", "hasControl", "[Z", true)
  | 14 => ("GrateLayersModel", "targets", "[I", true)
  | 15 => ("GrateLayersModel", "byNow", "[I", true)
  | 16 => ("GrateLayersModel", "bySum", "[I", true)
  | 17 => ("GrateLayersModel", "sums", "[J", true)
  | 18 => ("GrateLayersModel", "outputs", "[I", true)
  | 19 => ("GrateLayersModel", "hasBurner", "Z", false)
  | 20 => ("GrateLayersModel", "below", "I", false)
  | 21 => ("GrateLayersModel", "burnerHeat", "I", false)
  | 22 => ("GrateLayersModel", "burns", "Z", false)
  | 23 => ("GrateLayersModel", "minutes", "I", false)
  | 24 => ("GrateLayersModel", "latest", "[J", true)
  | 25 => ("GrateLayersModel", "all", "[J", true)
  | 26 => ("GrateLayersModel", "planSize", "I", false)
  | _ => ("GrateLayersModel", "plan", "[I", true)
def t_Mo : Nat → FieldType := fun k => match k with
  | 0 => .int
  | 1 => .array (.int)
  | 2 => .array (.int)
  | 3 => .array (.int)
  | 4 => .int
  | 5 => .array (.int)
  | 6 => .array (.long)
  | 7 => .array (.long)
  | 8 => .array (.long)
  | 9 => .array (.int)
  | 10 => .array (.int)
  | 11 => .int
  | 12 => .int
  | 13 => .array (.boolean)
  | 14 => .array (.int)
  | 15 => .array (.int)
  | 16 => .array (.int)
  | 17 => .array (.long)
  | 18 => .array (.int)
  | 19 => .boolean
  | 20 => .int
  | 21 => .int
  | 22 => .boolean
  | 23 => .int
  | 24 => .array (.long)
  | 25 => .array (.long)
  | 26 => .int
  | _ => .array (.int)
theorem n_Mo : ∀ a, a < 28 → ∀ b, b < 28 → a ≠ b → (T_Mo a).2.1 ≠ (T_Mo b).2.1 := by decide +kernel
theorem t_Mo_ok : ∀ k, k < 28 → parseFieldDescriptor (T_Mo k).2.2.1 = some (t_Mo k) := by decide +kernel
theorem i0_Mo : ∀ w ∈ u_ws R_Mo T_Mo 28, w ∈ lw_tbl := by decide +kernel
theorem i1_Mo : ∀ w ∈ u_ws R_Mo T_Mo 28, goodWord w = true := by decide +kernel
theorem i_Mo : ∀ w ∈ u_ws R_Mo T_Mo 28, w ∈ gtb := fun w h => gdm (i0_Mo w h) (i1_Mo w h)
/-- the classes whose objects the worlds hold -/
abbrev clG : List vw_C := [(R_GL, T_GL, 9), (R_Ce, T_Ce, 1), (R_Ct, T_Ct, 6), (R_Fu, T_Fu, 11), (R_Gr, T_Gr, 9), (R_Ki, T_Ki, 3), (R_Mi, T_Mi, 6), (R_Zo, T_Zo, 5), (R_Mo, T_Mo, 28)]
abbrev b_GL_init : ByteArray := prog_1_method_1_code
def y_GL_init : MethodName := ⟨"GrateLayers", "<init>", "(I)V"⟩
abbrev b_GL_kind : ByteArray := prog_1_method_2_code
def y_GL_kind : MethodName := ⟨"GrateLayers", "kind", "(III)Z"⟩
abbrev b_GL_bunker : ByteArray := prog_1_method_3_code
def y_GL_bunker : MethodName := ⟨"GrateLayers", "bunker", "(III)Z"⟩
abbrev b_GL_crane : ByteArray := prog_1_method_4_code
def y_GL_crane : MethodName := ⟨"GrateLayers", "crane", "(I)Z"⟩
abbrev b_GL_grab : ByteArray := prog_1_method_5_code
def y_GL_grab : MethodName := ⟨"GrateLayers", "grab", "(I)I"⟩
abbrev b_GL_share : ByteArray := prog_1_method_6_code
def y_GL_share : MethodName := ⟨"GrateLayers", "share", "(II)I"⟩
abbrev b_GL_air : ByteArray := prog_1_method_7_code
def y_GL_air : MethodName := ⟨"GrateLayers", "air", "(III)Z"⟩
abbrev b_GL_set : ByteArray := prog_1_method_8_code
def y_GL_set : MethodName := ⟨"GrateLayers", "set", "(II)Z"⟩
abbrev b_GL_control : ByteArray := prog_1_method_9_code
def y_GL_control : MethodName := ⟨"GrateLayers", "control", "(IIII)Z"⟩
abbrev b_GL_burner : ByteArray := prog_1_method_10_code
def y_GL_burner : MethodName := ⟨"GrateLayers", "burner", "(II)Z"⟩
abbrev b_GL_run : ByteArray := prog_1_method_11_code
def y_GL_run : MethodName := ⟨"GrateLayers", "run", "(I)I"⟩
abbrev b_GL_bed : ByteArray := prog_1_method_12_code
def y_GL_bed : MethodName := ⟨"GrateLayers", "bed", "(II)J"⟩
abbrev b_GL_gas : ByteArray := prog_1_method_13_code
def y_GL_gas : MethodName := ⟨"GrateLayers", "gas", "(I)J"⟩
abbrev b_GL_output : ByteArray := prog_1_method_14_code
def y_GL_output : MethodName := ⟨"GrateLayers", "output", "(I)I"⟩
abbrev b_GL_burning : ByteArray := prog_1_method_15_code
def y_GL_burning : MethodName := ⟨"GrateLayers", "burning", "()Z"⟩
abbrev b_GL_ash : ByteArray := prog_1_method_16_code
def y_GL_ash : MethodName := ⟨"GrateLayers", "ash", "(I)J"⟩
abbrev b_GL_balance : ByteArray := prog_1_method_17_code
def y_GL_balance : MethodName := ⟨"GrateLayers", "balance", "(I)J"⟩
abbrev b_GL_plan : ByteArray := prog_1_method_18_code
def y_GL_plan : MethodName := ⟨"GrateLayers", "plan", "(I)I"⟩
abbrev b_GL_planned : ByteArray := prog_1_method_19_code
def y_GL_planned : MethodName := ⟨"GrateLayers", "planned", "(I)I"⟩
abbrev b_GL_within : ByteArray := prog_1_method_20_code
def y_GL_within : MethodName := ⟨"GrateLayers", "within", "(III)Z"⟩
abbrev b_GL_isKind : ByteArray := prog_1_method_21_code
def y_GL_isKind : MethodName := ⟨"GrateLayers", "isKind", "(I)Z"⟩
abbrev b_GL_isCell : ByteArray := prog_1_method_22_code
def y_GL_isCell : MethodName := ⟨"GrateLayers", "isCell", "(I)Z"⟩
abbrev b_GL_isController : ByteArray := prog_1_method_23_code
def y_GL_isController : MethodName := ⟨"GrateLayers", "isController", "(I)Z"⟩
abbrev b_GL_thousandths : ByteArray := prog_1_method_24_code
def y_GL_thousandths : MethodName := ⟨"GrateLayers", "thousandths", "(JI)J"⟩
abbrev b_GL_cut : ByteArray := prog_1_method_25_code
def y_GL_cut : MethodName := ⟨"GrateLayers", "cut", "(JJJ)J"⟩
abbrev b_GL_passMinute : ByteArray := prog_1_method_26_code
def y_GL_passMinute : MethodName := ⟨"GrateLayers", "passMinute", "()V"⟩
abbrev b_GL_feedGrate : ByteArray := prog_1_method_27_code
def y_GL_feedGrate : MethodName := ⟨"GrateLayers", "feedGrate", "()V"⟩
abbrev b_GL_obeyControllers : ByteArray := prog_1_method_28_code
def y_GL_obeyControllers : MethodName := ⟨"GrateLayers", "obeyControllers", "()V"⟩
abbrev b_GL_inCells : ByteArray := prog_1_method_29_code
def y_GL_inCells : MethodName := ⟨"GrateLayers", "inCells", "()J"⟩
abbrev b_GL_grabbed : ByteArray := prog_1_method_30_code
def y_GL_grabbed : MethodName := ⟨"GrateLayers", "grabbed", "()J"⟩
abbrev b_Mo_init : ByteArray := prog_10_method_1_code
def y_Mo_init : MethodName := ⟨"GrateLayersModel", "<init>", "(I)V"⟩
abbrev b_Mo_isIn : ByteArray := prog_10_method_3_code
def y_Mo_isIn : MethodName := ⟨"GrateLayersModel", "isIn", "(JJJ)Z"⟩
abbrev b_Mo_isKind : ByteArray := prog_10_method_4_code
def y_Mo_isKind : MethodName := ⟨"GrateLayersModel", "isKind", "(I)Z"⟩
abbrev b_Mo_isCell : ByteArray := prog_10_method_5_code
def y_Mo_isCell : MethodName := ⟨"GrateLayersModel", "isCell", "(I)Z"⟩
abbrev b_Mo_isZone : ByteArray := prog_10_method_6_code
def y_Mo_isZone : MethodName := ⟨"GrateLayersModel", "isZone", "(I)Z"⟩
abbrev b_Mo_partOf : ByteArray := prog_10_method_7_code
def y_Mo_partOf : MethodName := ⟨"GrateLayersModel", "partOf", "(JJ)J"⟩
abbrev b_Mo_kind : ByteArray := prog_10_method_8_code
def y_Mo_kind : MethodName := ⟨"GrateLayersModel", "kind", "(III)Z"⟩
abbrev b_Mo_weightOf : ByteArray := prog_10_method_9_code
def y_Mo_weightOf : MethodName := ⟨"GrateLayersModel", "weightOf", "(I)I"⟩
abbrev b_Mo_bunker : ByteArray := prog_10_method_10_code
def y_Mo_bunker : MethodName := ⟨"GrateLayersModel", "bunker", "(III)Z"⟩
abbrev b_Mo_crane : ByteArray := prog_10_method_11_code
def y_Mo_crane : MethodName := ⟨"GrateLayersModel", "crane", "(I)Z"⟩
abbrev b_Mo_take : ByteArray := prog_10_method_12_code
def y_Mo_take : MethodName := ⟨"GrateLayersModel", "take", "(III)V"⟩
abbrev b_Mo_grab : ByteArray := prog_10_method_13_code
def y_Mo_grab : MethodName := ⟨"GrateLayersModel", "grab", "(I)I"⟩
abbrev b_Mo_share : ByteArray := prog_10_method_14_code
def y_Mo_share : MethodName := ⟨"GrateLayersModel", "share", "(II)I"⟩
abbrev b_Mo_air : ByteArray := prog_10_method_15_code
def y_Mo_air : MethodName := ⟨"GrateLayersModel", "air", "(III)Z"⟩
abbrev b_Mo_set : ByteArray := prog_10_method_16_code
def y_Mo_set : MethodName := ⟨"GrateLayersModel", "set", "(II)Z"⟩
abbrev b_Mo_control : ByteArray := prog_10_method_17_code
def y_Mo_control : MethodName := ⟨"GrateLayersModel", "control", "(IIII)Z"⟩
abbrev b_Mo_burner : ByteArray := prog_10_method_18_code
def y_Mo_burner : MethodName := ⟨"GrateLayersModel", "burner", "(II)Z"⟩
abbrev b_Mo_moves : ByteArray := prog_10_method_19_code
def y_Mo_moves : MethodName := ⟨"GrateLayersModel", "moves", "()V"⟩
abbrev b_Mo_comes : ByteArray := prog_10_method_20_code
def y_Mo_comes : MethodName := ⟨"GrateLayersModel", "comes", "()V"⟩
abbrev b_Mo_least : ByteArray := prog_10_method_21_code
def y_Mo_least : MethodName := ⟨"GrateLayersModel", "least", "(JJ)J"⟩
abbrev b_Mo_burnsOn : ByteArray := prog_10_method_22_code
def y_Mo_burnsOn : MethodName := ⟨"GrateLayersModel", "burnsOn", "(I)V"⟩
abbrev b_Mo_cut : ByteArray := prog_10_method_23_code
def y_Mo_cut : MethodName := ⟨"GrateLayersModel", "cut", "(JJJ)J"⟩
abbrev b_Mo_controls : ByteArray := prog_10_method_24_code
def y_Mo_controls : MethodName := ⟨"GrateLayersModel", "controls", "(I)V"⟩
abbrev b_Mo_minute : ByteArray := prog_10_method_25_code
def y_Mo_minute : MethodName := ⟨"GrateLayersModel", "minute", "()V"⟩
abbrev b_Mo_run : ByteArray := prog_10_method_26_code
def y_Mo_run : MethodName := ⟨"GrateLayersModel", "run", "(I)I"⟩
abbrev b_Mo_bed : ByteArray := prog_10_method_27_code
def y_Mo_bed : MethodName := ⟨"GrateLayersModel", "bed", "(II)J"⟩
abbrev b_Mo_gas : ByteArray := prog_10_method_28_code
def y_Mo_gas : MethodName := ⟨"GrateLayersModel", "gas", "(I)J"⟩
abbrev b_Mo_output : ByteArray := prog_10_method_29_code
def y_Mo_output : MethodName := ⟨"GrateLayersModel", "output", "(I)I"⟩
abbrev b_Mo_burning : ByteArray := prog_10_method_30_code
def y_Mo_burning : MethodName := ⟨"GrateLayersModel", "burning", "()Z"⟩
abbrev b_Mo_ash : ByteArray := prog_10_method_31_code
def y_Mo_ash : MethodName := ⟨"GrateLayersModel", "ash", "(I)J"⟩
abbrev b_Mo_balance : ByteArray := prog_10_method_32_code
def y_Mo_balance : MethodName := ⟨"GrateLayersModel", "balance", "(I)J"⟩
abbrev b_Mo_cellOf : ByteArray := prog_10_method_33_code
def y_Mo_cellOf : MethodName := ⟨"GrateLayersModel", "cellOf", "(III)I"⟩
abbrev b_Mo_spreadOf : ByteArray := prog_10_method_34_code
def y_Mo_spreadOf : MethodName := ⟨"GrateLayersModel", "spreadOf", "(II)I"⟩
abbrev b_Mo_plan : ByteArray := prog_10_method_35_code
def y_Mo_plan : MethodName := ⟨"GrateLayersModel", "plan", "(I)I"⟩
abbrev b_Mo_planned : ByteArray := prog_10_method_36_code
def y_Mo_planned : MethodName := ⟨"GrateLayersModel", "planned", "(I)I"⟩
abbrev b_Ce_init : ByteArray := prog_2_method_1_code
def y_Ce_init : MethodName := ⟨"GrateLayers$Cell", "<init>", "()V"⟩
abbrev b_Ce_total : ByteArray := prog_2_method_2_code
def y_Ce_total : MethodName := ⟨"GrateLayers$Cell", "total", "()I"⟩
abbrev b_Ce_giveTo : ByteArray := prog_2_method_3_code
def y_Ce_giveTo : MethodName := ⟨"GrateLayers$Cell", "giveTo", "([LGrateLayers$Kind;I)I"⟩
abbrev b_Ce_hand : ByteArray := prog_2_method_4_code
def y_Ce_hand : MethodName := ⟨"GrateLayers$Cell", "hand", "(LGrateLayers$Kind;II)V"⟩
abbrev b_Ct_init : ByteArray := prog_3_method_1_code
def y_Ct_init : MethodName := ⟨"GrateLayers$Controller", "<init>", "()V"⟩
abbrev b_Ct_tell : ByteArray := prog_3_method_2_code
def y_Ct_tell : MethodName := ⟨"GrateLayers$Controller", "tell", "(III)V"⟩
abbrev b_Ct_look : ByteArray := prog_3_method_3_code
def y_Ct_look : MethodName := ⟨"GrateLayers$Controller", "look", "(J)V"⟩
abbrev b_Fu_init : ByteArray := prog_4_method_1_code
def y_Fu_init : MethodName := ⟨"GrateLayers$Furnace", "<init>", "()V"⟩
abbrev b_Fu_tellBurner : ByteArray := prog_4_method_2_code
def y_Fu_tellBurner : MethodName := ⟨"GrateLayers$Furnace", "tellBurner", "(II)V"⟩
abbrev b_Fu_spendOnDrying : ByteArray := prog_4_method_3_code
def y_Fu_spendOnDrying : MethodName := ⟨"GrateLayers$Furnace", "spendOnDrying", "(J)V"⟩
abbrev b_Fu_takeFromFuel : ByteArray := prog_4_method_4_code
def y_Fu_takeFromFuel : MethodName := ⟨"GrateLayers$Furnace", "takeFromFuel", "(J)V"⟩
abbrev b_Fu_fireBurner : ByteArray := prog_4_method_5_code
def y_Fu_fireBurner : MethodName := ⟨"GrateLayers$Furnace", "fireBurner", "()V"⟩
abbrev b_Fu_makeSteam : ByteArray := prog_4_method_6_code
def y_Fu_makeSteam : MethodName := ⟨"GrateLayers$Furnace", "makeSteam", "()V"⟩
abbrev b_Fu_imbalance : ByteArray := prog_4_method_7_code
def y_Fu_imbalance : MethodName := ⟨"GrateLayers$Furnace", "imbalance", "()J"⟩
abbrev b_Gr_init : ByteArray := prog_5_method_1_code
def y_Gr_init : MethodName := ⟨"GrateLayers$Grate", "<init>", "(I)V"⟩
abbrev b_Gr_hasZone : ByteArray := prog_5_method_2_code
def y_Gr_hasZone : MethodName := ⟨"GrateLayers$Grate", "hasZone", "(I)Z"⟩
abbrev b_Gr_moveOn : ByteArray := prog_5_method_3_code
def y_Gr_moveOn : MethodName := ⟨"GrateLayers$Grate", "moveOn", "()V"⟩
abbrev b_Gr_dryAndBurn : ByteArray := prog_5_method_4_code
def y_Gr_dryAndBurn : MethodName := ⟨"GrateLayers$Grate", "dryAndBurn", "(LGrateLayers$Furnace;)V"⟩
abbrev b_Gr_blow : ByteArray := prog_5_method_5_code
def y_Gr_blow : MethodName := ⟨"GrateLayers$Grate", "blow", "(I)V"⟩
abbrev b_Gr_lying : ByteArray := prog_5_method_6_code
def y_Gr_lying : MethodName := ⟨"GrateLayers$Grate", "lying", "()J"⟩
abbrev b_Gr_gone : ByteArray := prog_5_method_7_code
def y_Gr_gone : MethodName := ⟨"GrateLayers$Grate", "gone", "()J"⟩
abbrev b_Ki_init : ByteArray := prog_6_method_1_code
def y_Ki_init : MethodName := ⟨"GrateLayers$Kind", "<init>", "()V"⟩
abbrev b_Mi_init : ByteArray := prog_7_method_1_code
def y_Mi_init : MethodName := ⟨"GrateLayers$Mixer", "<init>", "()V"⟩
abbrev b_Mi_look : ByteArray := prog_7_method_2_code
def y_Mi_look : MethodName := ⟨"GrateLayers$Mixer", "look", "([LGrateLayers$Cell;)V"⟩
abbrev b_Mi_leastSpread : ByteArray := prog_7_method_3_code
def y_Mi_leastSpread : MethodName := ⟨"GrateLayers$Mixer", "leastSpread", "(I)I"⟩
abbrev b_Mi_countPlans : ByteArray := prog_7_method_4_code
def y_Mi_countPlans : MethodName := ⟨"GrateLayers$Mixer", "countPlans", "(I)I"⟩
abbrev b_Mi_spellTrial : ByteArray := prog_7_method_5_code
def y_Mi_spellTrial : MethodName := ⟨"GrateLayers$Mixer", "spellTrial", "(II)V"⟩
abbrev b_Mi_spreadOfTrial : ByteArray := prog_7_method_6_code
def y_Mi_spreadOfTrial : MethodName := ⟨"GrateLayers$Mixer", "spreadOfTrial", "(I)I"⟩
abbrev b_Mi_sumOfTrial : ByteArray := prog_7_method_7_code
def y_Mi_sumOfTrial : MethodName := ⟨"GrateLayers$Mixer", "sumOfTrial", "(II)I"⟩
abbrev b_Mi_keepTrial : ByteArray := prog_7_method_8_code
def y_Mi_keepTrial : MethodName := ⟨"GrateLayers$Mixer", "keepTrial", "(I)V"⟩
abbrev b_Zo_init : ByteArray := prog_8_method_1_code
def y_Zo_init : MethodName := ⟨"GrateLayers$Zone", "<init>", "()V"⟩
abbrev b_Zo_add : ByteArray := prog_8_method_2_code
def y_Zo_add : MethodName := ⟨"GrateLayers$Zone", "add", "(JJJ)V"⟩
abbrev b_Zo_dry : ByteArray := prog_8_method_3_code
def y_Zo_dry : MethodName := ⟨"GrateLayers$Zone", "dry", "(LGrateLayers$Furnace;)J"⟩
abbrev b_Zo_burn : ByteArray := prog_8_method_4_code
def y_Zo_burn : MethodName := ⟨"GrateLayers$Zone", "burn", "(LGrateLayers$Furnace;)J"⟩
abbrev b_Law_cell : ByteArray := method_2_code
def y_Law_cell : MethodName := ⟨"GrateLayersLaw", "cell", "([II)I"⟩
abbrev b_Ob_init : ByteArray := object_method_1_code
def y_Ob_init : MethodName := ⟨"java/lang/Object", "<init>", "()V"⟩
abbrev b_Ma_floorDiv : ByteArray := prog_11_method_49_code
def y_Ma_floorDiv : MethodName := ⟨"java/lang/Math", "floorDiv", "(JJ)J"⟩
abbrev b_Ma_maxIII : ByteArray := prog_11_method_65_code
def y_Ma_maxIII : MethodName := ⟨"java/lang/Math", "max", "(II)I"⟩
abbrev b_Ma_maxJJJ : ByteArray := prog_11_method_66_code
def y_Ma_maxJJJ : MethodName := ⟨"java/lang/Math", "max", "(JJ)J"⟩
abbrev b_Ma_minIII : ByteArray := prog_11_method_69_code
def y_Ma_minIII : MethodName := ⟨"java/lang/Math", "min", "(II)I"⟩
abbrev b_Ma_minJJJ : ByteArray := prog_11_method_70_code
def y_Ma_minJJJ : MethodName := ⟨"java/lang/Math", "min", "(JJ)J"⟩
