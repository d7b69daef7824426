def RX0 : String := "RiverHead$Camp"
def TX0 : u_T := fun k => match k with
  | 0 => ("RiverHead$Camp", "place", "[I", true)
  | 1 => ("RiverHead$Camp", "stock", "[I", true)
  | 2 => ("RiverHead$Camp", "fever", "[I", true)
  | 3 => ("RiverHead$Camp", "goal", "[I", true)
  | _ => ("RiverHead$Camp", "right", "[I", true)
def tyX0 : Nat → FieldType := fun k => match k with
  | 0 => .array .int
  | 1 => .array .int
  | 2 => .array .int
  | 3 => .array .int
  | _ => .array .int
theorem nmX0 : ∀ a, a < 5 → ∀ b, b < 5 → a ≠ b → (TX0 a).2.1 ≠ (TX0 b).2.1 := by decide +kernel
theorem tyX0_ok : ∀ k, k < 5 → parseFieldDescriptor (TX0 k).2.2.1 = some (tyX0 k) := by decide +kernel
def RX2 : String := "RiverHead$Claims"
def TX2 : u_T := fun k => match k with
  | 0 => ("RiverHead$Claims", "row", "[I", true)
  | 1 => ("RiverHead$Claims", "cell", "[I", true)
  | _ => ("RiverHead$Claims", "size", "I", false)
def tyX2 : Nat → FieldType := fun k => match k with
  | 0 => .array .int
  | 1 => .array .int
  | _ => .int
theorem nmX2 : ∀ a, a < 3 → ∀ b, b < 3 → a ≠ b → (TX2 a).2.1 ≠ (TX2 b).2.1 := by decide +kernel
theorem tyX2_ok : ∀ k, k < 3 → parseFieldDescriptor (TX2 k).2.2.1 = some (tyX2 k) := by decide +kernel
def RX3 : String := "RiverHead$Land"
def TX3 : u_T := fun k => match k with
  | 0 => ("RiverHead$Land", "height", "[I", true)
  | 1 => ("RiverHead$Land", "wet", "[I", true)
  | 2 => ("RiverHead$Land", "lord", "[I", true)
  | 3 => ("RiverHead$Land", "start", "[I", true)
  | 4 => ("RiverHead$Land", "end", "[I", true)
  | 5 => ("RiverHead$Land", "months", "[I", true)
  | 6 => ("RiverHead$Land", "size", "I", false)
  | _ => ("RiverHead$Land", "down", "[I", true)
def tyX3 : Nat → FieldType := fun k => match k with
  | 0 => .array .int
  | 1 => .array .int
  | 2 => .array .int
  | 3 => .array .int
  | 4 => .array .int
  | 5 => .array .int
  | 6 => .int
  | _ => .array .int
theorem nmX3 : ∀ a, a < 8 → ∀ b, b < 8 → a ≠ b → (TX3 a).2.1 ≠ (TX3 b).2.1 := by decide +kernel
theorem tyX3_ok : ∀ k, k < 8 → parseFieldDescriptor (TX3 k).2.2.1 = some (tyX3 k) := by decide +kernel
def RX4 : String := "RiverHead$Laws"
def TX4 : u_T := fun k => match k with
  | 0 => ("RiverHead$Laws", "firstYear", "[I", true)
  | 1 => ("RiverHead$Laws", "lastYear", "[I", true)
  | 2 => ("RiverHead$Laws", "clauses", "[I", true)
  | 3 => ("RiverHead$Laws", "about", "[I", true)
  | 4 => ("RiverHead$Laws", "number", "[I", true)
  | 5 => ("RiverHead$Laws", "firstMonth", "[I", true)
  | 6 => ("RiverHead$Laws", "lastMonth", "[I", true)
  | _ => ("RiverHead$Laws", "size", "I", false)
def tyX4 : Nat → FieldType := fun k => match k with
  | 0 => .array .int
  | 1 => .array .int
  | 2 => .array .int
  | 3 => .array .int
  | 4 => .array .int
  | 5 => .array .int
  | 6 => .array .int
  | _ => .int
theorem nmX4 : ∀ a, a < 8 → ∀ b, b < 8 → a ≠ b → (TX4 a).2.1 ≠ (TX4 b).2.1 := by decide +kernel
theorem tyX4_ok : ∀ k, k < 8 → parseFieldDescriptor (TX4 k).2.2.1 = some (tyX4 k) := by decide +kernel
def RX5 : String := "RiverHead$Reader"
def TX5 : u_T := fun k => match k with
  | 0 => ("RiverHead$Reader", "tape", "[I", true)
  | 1 => ("RiverHead$Reader", "length", "I", false)
  | _ => ("RiverHead$Reader", "at", "I", false)
def tyX5 : Nat → FieldType := fun k => match k with
  | 0 => .array .int
  | 1 => .int
  | _ => .int
theorem nmX5 : ∀ a, a < 3 → ∀ b, b < 3 → a ≠ b → (TX5 a).2.1 ≠ (TX5 b).2.1 := by decide +kernel
theorem tyX5_ok : ∀ k, k < 3 → parseFieldDescriptor (TX5 k).2.2.1 = some (tyX5 k) := by decide +kernel
def RX6 : String := "RiverHead$Rows"
def TX6 : u_T := fun k => match k with
  | 0 => ("RiverHead$Rows", "kind", "[I", true)
  | 1 => ("RiverHead$Rows", "a", "[I", true)
  | 2 => ("RiverHead$Rows", "b", "[I", true)
  | 3 => ("RiverHead$Rows", "owner", "[I", true)
  | 4 => ("RiverHead$Rows", "day", "[I", true)
  | 5 => ("RiverHead$Rows", "from", "[I", true)
  | 6 => ("RiverHead$Rows", "struck", "J", false)
  | 7 => ("RiverHead$Rows", "size", "I", false)
  | _ => ("RiverHead$Rows", "meaning", "[I", true)
def tyX6 : Nat → FieldType := fun k => match k with
  | 0 => .array .int
  | 1 => .array .int
  | 2 => .array .int
  | 3 => .array .int
  | 4 => .array .int
  | 5 => .array .int
  | 6 => .long
  | 7 => .int
  | _ => .array .int
theorem nmX6 : ∀ a, a < 9 → ∀ b, b < 9 → a ≠ b → (TX6 a).2.1 ≠ (TX6 b).2.1 := by decide +kernel
theorem tyX6_ok : ∀ k, k < 9 → parseFieldDescriptor (TX6 k).2.2.1 = some (tyX6 k) := by decide +kernel
def RX7 : String := "RiverHead$Sheet"
def TX7 : u_T := fun k => match k with
  | 0 => ("RiverHead$Sheet", "numbers", "[J", true)
  | 1 => ("RiverHead$Sheet", "bits", "I", false)
  | _ => ("RiverHead$Sheet", "size", "I", false)
def tyX7 : Nat → FieldType := fun k => match k with
  | 0 => .array .long
  | 1 => .int
  | _ => .int
theorem nmX7 : ∀ a, a < 3 → ∀ b, b < 3 → a ≠ b → (TX7 a).2.1 ≠ (TX7 b).2.1 := by decide +kernel
theorem tyX7_ok : ∀ k, k < 3 → parseFieldDescriptor (TX7 k).2.2.1 = some (tyX7 k) := by decide +kernel
def RX8 : String := "RiverHead$Tolls"
def TX8 : u_T := fun k => match k with
  | 0 => ("RiverHead$Tolls", "cost", "[I", true)
  | 1 => ("RiverHead$Tolls", "settled", "J", false)
  | _ => ("RiverHead$Tolls", "toll", "[I", true)
def tyX8 : Nat → FieldType := fun k => match k with
  | 0 => .array .int
  | 1 => .long
  | _ => .array .int
theorem nmX8 : ∀ a, a < 3 → ∀ b, b < 3 → a ≠ b → (TX8 a).2.1 ≠ (TX8 b).2.1 := by decide +kernel
theorem tyX8_ok : ∀ k, k < 3 → parseFieldDescriptor (TX8 k).2.2.1 = some (tyX8 k) := by decide +kernel
def RX9 : String := "RiverHead$Trail"
def TX9 : u_T := fun k => match k with
  | 0 => ("RiverHead$Trail", "spot", "[J", true)
  | 1 => ("RiverHead$Trail", "row", "[I", true)
  | 2 => ("RiverHead$Trail", "fit", "[J", true)
  | 3 => ("RiverHead$Trail", "way", "[I", true)
  | 4 => ("RiverHead$Trail", "steps", "[I", true)
  | _ => ("RiverHead$Trail", "size", "I", false)
def tyX9 : Nat → FieldType := fun k => match k with
  | 0 => .array .long
  | 1 => .array .int
  | 2 => .array .long
  | 3 => .array .int
  | 4 => .array .int
  | _ => .int
theorem nmX9 : ∀ a, a < 6 → ∀ b, b < 6 → a ≠ b → (TX9 a).2.1 ≠ (TX9 b).2.1 := by decide +kernel
theorem tyX9_ok : ∀ k, k < 6 → parseFieldDescriptor (TX9 k).2.2.1 = some (tyX9 k) := by decide +kernel
def RX10 : String := "RiverHead$World"
def TX10 : u_T := fun k => match k with
  | 0 => ("RiverHead$World", "land", "LRiverHead$Land;", true)
  | 1 => ("RiverHead$World", "camp", "LRiverHead$Camp;", true)
  | 2 => ("RiverHead$World", "rows", "LRiverHead$Rows;", true)
  | 3 => ("RiverHead$World", "laws", "LRiverHead$Laws;", true)
  | 4 => ("RiverHead$World", "claims", "LRiverHead$Claims;", true)
  | 5 => ("RiverHead$World", "books", "[I", true)
  | _ => ("RiverHead$World", "day", "I", false)
def tyX10 : Nat → FieldType := fun k => match k with
  | 0 => .object "RiverHead$Land"
  | 1 => .object "RiverHead$Camp"
  | 2 => .object "RiverHead$Rows"
  | 3 => .object "RiverHead$Laws"
  | 4 => .object "RiverHead$Claims"
  | 5 => .array .int
  | _ => .int
theorem nmX10 : ∀ a, a < 7 → ∀ b, b < 7 → a ≠ b → (TX10 a).2.1 ≠ (TX10 b).2.1 := by decide +kernel
theorem tyX10_ok : ∀ k, k < 7 → parseFieldDescriptor (TX10 k).2.2.1 = some (tyX10 k) := by decide +kernel
def RX11 : String := "RiverHead"
def TX11 : u_T := fun k => match k with
  | 0 => ("RiverHead", "world", "LRiverHead$World;", true)
  | 1 => ("RiverHead", "reader", "LRiverHead$Reader;", true)
  | 2 => ("RiverHead", "trail", "LRiverHead$Trail;", true)
  | 3 => ("RiverHead", "tolls", "LRiverHead$Tolls;", true)
  | 4 => ("RiverHead", "sheets", "[LRiverHead$Sheet;", true)
  | 5 => ("RiverHead", "tally", "[I", true)
  | 6 => ("RiverHead", "kept", "LRiverHead$World;", false)
  | _ => ("RiverHead", "keeps", "Z", false)
def tyX11 : Nat → FieldType := fun k => match k with
  | 0 => .object "RiverHead$World"
  | 1 => .object "RiverHead$Reader"
  | 2 => .object "RiverHead$Trail"
  | 3 => .object "RiverHead$Tolls"
  | 4 => .array (.object "RiverHead$Sheet")
  | 5 => .array .int
  | 6 => .object "RiverHead$World"
  | _ => .boolean
theorem nmX11 : ∀ a, a < 8 → ∀ b, b < 8 → a ≠ b → (TX11 a).2.1 ≠ (TX11 b).2.1 := by decide +kernel
theorem tyX11_ok : ∀ k, k < 8 → parseFieldDescriptor (TX11 k).2.2.1 = some (tyX11 k) := by decide +kernel
def RX12 : String := "RiverHeadModel"
def TX12 : u_T := fun k => match k with
  | 0 => ("RiverHeadModel", "m", "[I", true)
  | 1 => ("RiverHeadModel", "kept", "[I", true)
  | 2 => ("RiverHeadModel", "isKept", "Z", false)
  | 3 => ("RiverHeadModel", "tape", "[I", true)
  | 4 => ("RiverHeadModel", "taped", "I", false)
  | 5 => ("RiverHeadModel", "bits", "[I", true)
  | 6 => ("RiverHeadModel", "size", "[I", true)
  | 7 => ("RiverHeadModel", "number", "[J", true)
  | 8 => ("RiverHeadModel", "findings", "[I", true)
  | 9 => ("RiverHeadModel", "turned", "I", false)
  | 10 => ("RiverHeadModel", "struckToo", "J", false)
  | 11 => ("RiverHeadModel", "allRight", "Z", false)
  | 12 => ("RiverHeadModel", "here", "I", false)
  | 13 => ("RiverHeadModel", "isWrong", "Z", false)
  | 14 => ("RiverHeadModel", "read", "[I", true)
  | 15 => ("RiverHeadModel", "many", "I", false)
  | 16 => ("RiverHeadModel", "cost", "[I", true)
  | 17 => ("RiverHeadModel", "prices", "[I", true)
  | 18 => ("RiverHeadModel", "claimed", "[J", true)
  | 19 => ("RiverHeadModel", "chosen", "[I", true)
  | _ => ("RiverHeadModel", "carried", "[J", true)
def tyX12 : Nat → FieldType := fun k => match k with
  | 0 => .array .int
  | 1 => .array .int
  | 2 => .boolean
  | 3 => .array .int
  | 4 => .int
  | 5 => .array .int
  | 6 => .array .int
  | 7 => .array .long
  | 8 => .array .int
  | 9 => .int
  | 10 => .long
  | 11 => .boolean
  | 12 => .int
  | 13 => .boolean
  | 14 => .array .int
  | 15 => .int
  | 16 => .array .int
  | 17 => .array .int
  | 18 => .array .long
  | 19 => .array .int
  | _ => .array .long
theorem nmX12 : ∀ a, a < 21 → ∀ b, b < 21 → a ≠ b → (TX12 a).2.1 ≠ (TX12 b).2.1 := by decide +kernel
theorem tyX12_ok : ∀ k, k < 21 → parseFieldDescriptor (TX12 k).2.2.1 = some (tyX12 k) := by decide +kernel
abbrev vwCl : List vw_C := [(RX0, TX0, 5), (RX2, TX2, 3), (RX3, TX3, 8), (RX4, TX4, 8), (RX5, TX5, 3), (RX6, TX6, 9), (RX7, TX7, 3), (RX8, TX8, 3), (RX9, TX9, 6), (RX10, TX10, 7), (RX11, TX11, 8), (RX12, TX12, 21)]
theorem wfX0 : u_ws RX0 TX0 5 = ([160, 162, 164, 166, 168] : List Nat).filterMap (fun i => lw_tbl[i]?) ∧ (u_ws RX0 TX0 5).all goodWord = true := by decide +kernel
theorem wfX2 : u_ws RX2 TX2 3 = ([271, 273, 275] : List Nat).filterMap (fun i => lw_tbl[i]?) ∧ (u_ws RX2 TX2 3).all goodWord = true := by decide +kernel
theorem wfX3 : u_ws RX3 TX3 8 = ([120, 122, 124, 126, 128, 130, 132, 134] : List Nat).filterMap (fun i => lw_tbl[i]?) ∧ (u_ws RX3 TX3 8).all goodWord = true := by decide +kernel
theorem wfX4 : u_ws RX4 TX4 8 = ([242, 244, 246, 248, 250, 252, 254, 256] : List Nat).filterMap (fun i => lw_tbl[i]?) ∧ (u_ws RX4 TX4 8).all goodWord = true := by decide +kernel
theorem wfX5 : u_ws RX5 TX5 3 = ([321, 323, 325] : List Nat).filterMap (fun i => lw_tbl[i]?) ∧ (u_ws RX5 TX5 3).all goodWord = true := by decide +kernel
theorem wfX6 : u_ws RX6 TX6 9 = ([201, 203, 205, 207, 209, 211, 213, 215, 217] : List Nat).filterMap (fun i => lw_tbl[i]?) ∧ (u_ws RX6 TX6 9).all goodWord = true := by decide +kernel
theorem wfX7 : u_ws RX7 TX7 3 = ([386, 388, 390] : List Nat).filterMap (fun i => lw_tbl[i]?) ∧ (u_ws RX7 TX7 3).all goodWord = true := by decide +kernel
theorem wfX8 : u_ws RX8 TX8 3 = ([366, 368, 370] : List Nat).filterMap (fun i => lw_tbl[i]?) ∧ (u_ws RX8 TX8 3).all goodWord = true := by decide +kernel
theorem wfX9 : u_ws RX9 TX9 6 = ([342, 344, 346, 348, 350, 352] : List Nat).filterMap (fun i => lw_tbl[i]?) ∧ (u_ws RX9 TX9 6).all goodWord = true := by decide +kernel
theorem wfX10 : u_ws RX10 TX10 7 = ([296, 298, 300, 302, 304, 306, 308] : List Nat).filterMap (fun i => lw_tbl[i]?) ∧ (u_ws RX10 TX10 7).all goodWord = true := by decide +kernel
theorem wfX11 : u_ws RX11 TX11 8 = ([401, 403, 405, 407, 409, 411, 413, 415] : List Nat).filterMap (fun i => lw_tbl[i]?) ∧ (u_ws RX11 TX11 8).all goodWord = true := by decide +kernel
theorem wfX12 : u_ws RX12 TX12 21 = ([1192, 1194, 1196, 1198, 1200, 1202, 1204, 1206, 1208, 1210, 1212, 1214, 1216, 1218, 1220, 1222, 1224, 1226, 1228, 1230, 1232] : List Nat).filterMap (fun i => lw_tbl[i]?) ∧ (u_ws RX12 TX12 21).all goodWord = true := by decide +kernel
