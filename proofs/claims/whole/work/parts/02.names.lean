def cn_R : String := "RoofAcross"
def cf_R : u_T := fun k => match k with
  | 0 => ("RoofAcross", "village", "LRoofAcross$Village;", true)
  | 1 => ("RoofAcross", "weather", "LRoofAcross$Weather;", true)
  | 2 => ("RoofAcross", "story", "LRoofAcross$Story;", true)
  | 3 => ("RoofAcross", "moods", "LRoofAcross$Moods;", true)
  | 4 => ("RoofAcross", "exchange", "LRoofAcross$Exchange;", true)
  | 5 => ("RoofAcross", "knowledge", "LRoofAcross$Knowledge;", true)
  | 6 => ("RoofAcross", "helpers", "LRoofAcross$Helpers;", true)
  | 7 => ("RoofAcross", "claims", "[I", true)
  | 8 => ("RoofAcross", "sheets", "[LRoofAcross$Sheet;", true)
  | _ => ("RoofAcross", "latestFinding", "I", false)
def ct_R : Nat → FieldType := fun k => match k with
  | 0 => .object "RoofAcross$Village"
  | 1 => .object "RoofAcross$Weather"
  | 2 => .object "RoofAcross$Story"
  | 3 => .object "RoofAcross$Moods"
  | 4 => .object "RoofAcross$Exchange"
  | 5 => .object "RoofAcross$Knowledge"
  | 6 => .object "RoofAcross$Helpers"
  | 7 => .array .int
  | 8 => .array (.object "RoofAcross$Sheet")
  | _ => .int
theorem ca_R : ∀ a, a < 10 → ∀ b, b < 10 → a ≠ b → (cf_R a).2.1 ≠ (cf_R b).2.1 := by decide +kernel
theorem cp_R : ∀ k, k < 10 → parseFieldDescriptor (cf_R k).2.2.1 = some (ct_R k) := by decide +kernel
set_option maxRecDepth 100000 in
theorem ci_R : ∀ w ∈ u_ws cn_R cf_R 10, w ∈ ra_WS := ra_all [465, 467, 469, 471, 473, 475, 477, 479, 481, 483] (by decide +kernel) (by decide +kernel)
def cn_V : String := "RoofAcross$Village"
def cf_V : u_T := fun k => match k with
  | 0 => ("RoofAcross$Village", "houses", "LRoofAcross$Text;", true)
  | 1 => ("RoofAcross$Village", "lots", "LRoofAcross$Text;", true)
  | 2 => ("RoofAcross$Village", "tiles", "[I", true)
  | 3 => ("RoofAcross$Village", "purse", "[I", true)
  | 4 => ("RoofAcross$Village", "temper", "[I", true)
  | 5 => ("RoofAcross$Village", "owns", "[I", true)
  | 6 => ("RoofAcross$Village", "owner", "[I", true)
  | 7 => ("RoofAcross$Village", "ring", "[I", true)
  | 8 => ("RoofAcross$Village", "count", "I", false)
  | 9 => ("RoofAcross$Village", "housesFault", "I", false)
  | 10 => ("RoofAcross$Village", "lotsFault", "I", false)
  | _ => ("RoofAcross$Village", "changes", "I", false)
def ct_V : Nat → FieldType := fun k => match k with
  | 0 => .object "RoofAcross$Text"
  | 1 => .object "RoofAcross$Text"
  | 2 => .array .int
  | 3 => .array .int
  | 4 => .array .int
  | 5 => .array .int
  | 6 => .array .int
  | 7 => .array .int
  | 8 => .int
  | 9 => .int
  | 10 => .int
  | _ => .int
theorem ca_V : ∀ a, a < 12 → ∀ b, b < 12 → a ≠ b → (cf_V a).2.1 ≠ (cf_V b).2.1 := by decide +kernel
theorem cp_V : ∀ k, k < 12 → parseFieldDescriptor (cf_V k).2.2.1 = some (ct_V k) := by decide +kernel
set_option maxRecDepth 100000 in
theorem ci_V : ∀ w ∈ u_ws cn_V cf_V 12, w ∈ ra_WS := ra_all [155, 157, 159, 161, 163, 165, 167, 169, 171, 173, 175, 177] (by decide +kernel) (by decide +kernel)
def cn_T : String := "RoofAcross$Text"
def cf_T : u_T := fun k => match k with
  | 0 => ("RoofAcross$Text", "bytes", "[I", true)
  | 1 => ("RoofAcross$Text", "most", "I", true)
  | _ => ("RoofAcross$Text", "size", "I", false)
def ct_T : Nat → FieldType := fun k => match k with
  | 0 => .array .int
  | 1 => .int
  | _ => .int
theorem ca_T : ∀ a, a < 3 → ∀ b, b < 3 → a ≠ b → (cf_T a).2.1 ≠ (cf_T b).2.1 := by decide +kernel
theorem cp_T : ∀ k, k < 3 → parseFieldDescriptor (cf_T k).2.2.1 = some (ct_T k) := by decide +kernel
set_option maxRecDepth 100000 in
theorem ci_T : ∀ w ∈ u_ws cn_T cf_T 3, w ∈ ra_WS := ra_all [108, 110, 112] (by decide +kernel) (by decide +kernel)
def cn_Wt : String := "RoofAcross$Weather"
def cf_Wt : u_T := fun k => match k with
  | 0 => ("RoofAcross$Weather", "strengths", "[I", true)
  | 1 => ("RoofAcross$Weather", "count", "I", false)
  | 2 => ("RoofAcross$Weather", "price", "I", false)
  | 3 => ("RoofAcross$Weather", "wear", "I", false)
  | _ => ("RoofAcross$Weather", "changes", "I", false)
def ct_Wt : Nat → FieldType := fun k => match k with
  | 0 => .array .int
  | 1 => .int
  | 2 => .int
  | 3 => .int
  | _ => .int
theorem ca_Wt : ∀ a, a < 5 → ∀ b, b < 5 → a ≠ b → (cf_Wt a).2.1 ≠ (cf_Wt b).2.1 := by decide +kernel
theorem cp_Wt : ∀ k, k < 5 → parseFieldDescriptor (cf_Wt k).2.2.1 = some (ct_Wt k) := by decide +kernel
set_option maxRecDepth 100000 in
theorem ci_Wt : ∀ w ∈ u_ws cn_Wt cf_Wt 5, w ∈ ra_WS := ra_all [204, 206, 208, 210, 212] (by decide +kernel) (by decide +kernel)
def cn_Co : String := "RoofAcross$Course"
def cf_Co : u_T := fun k => match k with
  | 0 => ("RoofAcross$Course", "village", "LRoofAcross$Village;", true)
  | 1 => ("RoofAcross$Course", "weather", "LRoofAcross$Weather;", true)
  | 2 => ("RoofAcross$Course", "who", "[I", true)
  | 3 => ("RoofAcross$Course", "temper", "[I", true)
  | 4 => ("RoofAcross$Course", "tiles", "[I", true)
  | 5 => ("RoofAcross$Course", "purse", "[I", true)
  | 6 => ("RoofAcross$Course", "harm", "[I", true)
  | 7 => ("RoofAcross$Course", "laid", "[I", true)
  | 8 => ("RoofAcross$Course", "leak", "[I", true)
  | 9 => ("RoofAcross$Course", "number", "I", false)
  | _ => ("RoofAcross$Course", "laidNow", "I", false)
def ct_Co : Nat → FieldType := fun k => match k with
  | 0 => .object "RoofAcross$Village"
  | 1 => .object "RoofAcross$Weather"
  | 2 => .array .int
  | 3 => .array .int
  | 4 => .array .int
  | 5 => .array .int
  | 6 => .array .int
  | 7 => .array .int
  | 8 => .array .int
  | 9 => .int
  | _ => .int
theorem ca_Co : ∀ a, a < 11 → ∀ b, b < 11 → a ≠ b → (cf_Co a).2.1 ≠ (cf_Co b).2.1 := by decide +kernel
theorem cp_Co : ∀ k, k < 11 → parseFieldDescriptor (cf_Co k).2.2.1 = some (ct_Co k) := by decide +kernel
set_option maxRecDepth 100000 in
theorem ci_Co : ∀ w ∈ u_ws cn_Co cf_Co 11, w ∈ ra_WS := ra_all [248, 250, 252, 254, 256, 258, 260, 262, 264, 266, 268] (by decide +kernel) (by decide +kernel)
def cn_So : String := "RoofAcross$Story"
def cf_So : u_T := fun k => match k with
  | 0 => ("RoofAcross$Story", "village", "LRoofAcross$Village;", true)
  | 1 => ("RoofAcross$Story", "weather", "LRoofAcross$Weather;", true)
  | 2 => ("RoofAcross$Story", "course", "LRoofAcross$Course;", true)
  | 3 => ("RoofAcross$Story", "rows", "[[I", true)
  | _ => ("RoofAcross$Story", "stamp", "I", false)
def ct_So : Nat → FieldType := fun k => match k with
  | 0 => .object "RoofAcross$Village"
  | 1 => .object "RoofAcross$Weather"
  | 2 => .object "RoofAcross$Course"
  | 3 => .array (.array .int)
  | _ => .int
theorem ca_So : ∀ a, a < 5 → ∀ b, b < 5 → a ≠ b → (cf_So a).2.1 ≠ (cf_So b).2.1 := by decide +kernel
theorem cp_So : ∀ k, k < 5 → parseFieldDescriptor (cf_So k).2.2.1 = some (ct_So k) := by decide +kernel
set_option maxRecDepth 100000 in
theorem ci_So : ∀ w ∈ u_ws cn_So cf_So 5, w ∈ ra_WS := ra_all [276, 278, 280, 282, 284] (by decide +kernel) (by decide +kernel)
def cn_Mo : String := "RoofAcross$Moods"
def cf_Mo : u_T := fun k => match k with
  | 0 => ("RoofAcross$Moods", "village", "LRoofAcross$Village;", true)
  | 1 => ("RoofAcross$Moods", "weather", "LRoofAcross$Weather;", true)
  | 2 => ("RoofAcross$Moods", "course", "LRoofAcross$Course;", true)
  | 3 => ("RoofAcross$Moods", "limit", "[I", true)
  | 4 => ("RoofAcross$Moods", "rows", "[I", true)
  | 5 => ("RoofAcross$Moods", "first", "[I", true)
  | 6 => ("RoofAcross$Moods", "dryAmongGrudges", "[I", true)
  | _ => ("RoofAcross$Moods", "stamp", "I", false)
def ct_Mo : Nat → FieldType := fun k => match k with
  | 0 => .object "RoofAcross$Village"
  | 1 => .object "RoofAcross$Weather"
  | 2 => .object "RoofAcross$Course"
  | 3 => .array .int
  | 4 => .array .int
  | 5 => .array .int
  | 6 => .array .int
  | _ => .int
theorem ca_Mo : ∀ a, a < 8 → ∀ b, b < 8 → a ≠ b → (cf_Mo a).2.1 ≠ (cf_Mo b).2.1 := by decide +kernel
theorem cp_Mo : ∀ k, k < 8 → parseFieldDescriptor (cf_Mo k).2.2.1 = some (ct_Mo k) := by decide +kernel
set_option maxRecDepth 100000 in
theorem ci_Mo : ∀ w ∈ u_ws cn_Mo cf_Mo 8, w ∈ ra_WS := ra_all [305, 307, 309, 311, 313, 315, 317, 319] (by decide +kernel) (by decide +kernel)
def cn_Ex : String := "RoofAcross$Exchange"
def cf_Ex : u_T := fun k => match k with
  | 0 => ("RoofAcross$Exchange", "village", "LRoofAcross$Village;", true)
  | 1 => ("RoofAcross$Exchange", "wishes", "[[I", true)
  | 2 => ("RoofAcross$Exchange", "marketRow", "[I", true)
  | 3 => ("RoofAcross$Exchange", "bestRow", "[I", true)
  | 4 => ("RoofAcross$Exchange", "bestFrom", "[I", true)
  | 5 => ("RoofAcross$Exchange", "marketChanges", "I", false)
  | 6 => ("RoofAcross$Exchange", "marketWishes", "I", false)
  | 7 => ("RoofAcross$Exchange", "bestWishes", "I", false)
  | 8 => ("RoofAcross$Exchange", "changes", "I", false)
  | 9 => ("RoofAcross$Exchange", "marketStamp", "I", false)
  | _ => ("RoofAcross$Exchange", "bestStamp", "I", false)
def ct_Ex : Nat → FieldType := fun k => match k with
  | 0 => .object "RoofAcross$Village"
  | 1 => .array (.array .int)
  | 2 => .array .int
  | 3 => .array .int
  | 4 => .array .int
  | 5 => .int
  | 6 => .int
  | 7 => .int
  | 8 => .int
  | 9 => .int
  | _ => .int
theorem ca_Ex : ∀ a, a < 11 → ∀ b, b < 11 → a ≠ b → (cf_Ex a).2.1 ≠ (cf_Ex b).2.1 := by decide +kernel
theorem cp_Ex : ∀ k, k < 11 → parseFieldDescriptor (cf_Ex k).2.2.1 = some (ct_Ex k) := by decide +kernel
set_option maxRecDepth 100000 in
theorem ci_Ex : ∀ w ∈ u_ws cn_Ex cf_Ex 11, w ∈ ra_WS := ra_all [345, 347, 349, 351, 353, 355, 357, 359, 361, 363, 365] (by decide +kernel) (by decide +kernel)
def cn_Kn : String := "RoofAcross$Knowledge"
def cf_Kn : u_T := fun k => match k with
  | 0 => ("RoofAcross$Knowledge", "village", "LRoofAcross$Village;", true)
  | 1 => ("RoofAcross$Knowledge", "houses", "[I", true)
  | 2 => ("RoofAcross$Knowledge", "roofs", "[I", true)
  | 3 => ("RoofAcross$Knowledge", "is", "[I", true)
  | 4 => ("RoofAcross$Knowledge", "\x6fpen", "[I", true)
  | 5 => ("RoofAcross$Knowledge", "waysTo", "[I", true)
  | 6 => ("RoofAcross$Knowledge", "waysFrom", "[I", true)
  | 7 => ("RoofAcross$Knowledge", "waysWith", "[[I", true)
  | 8 => ("RoofAcross$Knowledge", "count", "I", false)
  | 9 => ("RoofAcross$Knowledge", "ways", "I", false)
  | 10 => ("RoofAcross$Knowledge", "changes", "I", false)
  | _ => ("RoofAcross$Knowledge", "stamp", "I", false)
def ct_Kn : Nat → FieldType := fun k => match k with
  | 0 => .object "RoofAcross$Village"
  | 1 => .array .int
  | 2 => .array .int
  | 3 => .array .int
  | 4 => .array .int
  | 5 => .array .int
  | 6 => .array .int
  | 7 => .array (.array .int)
  | 8 => .int
  | 9 => .int
  | 10 => .int
  | _ => .int
theorem ca_Kn : ∀ a, a < 12 → ∀ b, b < 12 → a ≠ b → (cf_Kn a).2.1 ≠ (cf_Kn b).2.1 := by decide +kernel
theorem cp_Kn : ∀ k, k < 12 → parseFieldDescriptor (cf_Kn k).2.2.1 = some (ct_Kn k) := by decide +kernel
set_option maxRecDepth 100000 in
theorem ci_Kn : ∀ w ∈ u_ws cn_Kn cf_Kn 12, w ∈ ra_WS := ra_all [389, 391, 393, 395, 397, 399, 401, 403, 405, 407, 409, 411] (by decide +kernel) (by decide +kernel)
def cn_He : String := "RoofAcross$Helpers"
def cf_He : u_T := fun k => match k with
  | 0 => ("RoofAcross$Helpers", "village", "LRoofAcross$Village;", true)
  | 1 => ("RoofAcross$Helpers", "weather", "LRoofAcross$Weather;", true)
  | _ => ("RoofAcross$Helpers", "tiles", "[I", true)
def ct_He : Nat → FieldType := fun k => match k with
  | 0 => .object "RoofAcross$Village"
  | 1 => .object "RoofAcross$Weather"
  | _ => .array .int
theorem ca_He : ∀ a, a < 3 → ∀ b, b < 3 → a ≠ b → (cf_He a).2.1 ≠ (cf_He b).2.1 := by decide +kernel
theorem cp_He : ∀ k, k < 3 → parseFieldDescriptor (cf_He k).2.2.1 = some (ct_He k) := by decide +kernel
set_option maxRecDepth 100000 in
theorem ci_He : ∀ w ∈ u_ws cn_He cf_He 3, w ∈ ra_WS := ra_all [424, 426, 428] (by decide +kernel) (by decide +kernel)
def cn_Sh : String := "RoofAcross$Sheet"
def cf_Sh : u_T := fun k => match k with
  | 0 => ("RoofAcross$Sheet", "items", "[I", true)
  | 1 => ("RoofAcross$Sheet", "lost", "Z", false)
  | 2 => ("RoofAcross$Sheet", "form", "I", false)
  | _ => ("RoofAcross$Sheet", "size", "I", false)
def ct_Sh : Nat → FieldType := fun k => match k with
  | 0 => .array .int
  | 1 => .boolean
  | 2 => .int
  | _ => .int
theorem ca_Sh : ∀ a, a < 4 → ∀ b, b < 4 → a ≠ b → (cf_Sh a).2.1 ≠ (cf_Sh b).2.1 := by decide +kernel
theorem cp_Sh : ∀ k, k < 4 → parseFieldDescriptor (cf_Sh k).2.2.1 = some (ct_Sh k) := by decide +kernel
set_option maxRecDepth 100000 in
theorem ci_Sh : ∀ w ∈ u_ws cn_Sh cf_Sh 4, w ∈ ra_WS := ra_all [446, 448, 450, 452] (by decide +kernel) (by decide +kernel)
def cn_N : String := "RoofAcrossModel"
def cf_N : u_T := fun k => match k with
  | 0 => ("RoofAcrossModel", "typed", "[I", true)
  | 1 => ("RoofAcrossModel", "texts", "[I", true)
  | 2 => ("RoofAcrossModel", "houses", "I", false)
  | 3 => ("RoofAcrossModel", "tilesOf", "[I", true)
  | 4 => ("RoofAcrossModel", "purseOf", "[I", true)
  | 5 => ("RoofAcrossModel", "temperOf", "[I", true)
  | 6 => ("RoofAcrossModel", "owns", "[I", true)
  | 7 => ("RoofAcrossModel", "rains", "I", false)
  | 8 => ("RoofAcrossModel", "strength", "[I", true)
  | 9 => ("RoofAcrossModel", "setting", "[I", true)
  | 10 => ("RoofAcrossModel", "claims", "[I", true)
  | 11 => ("RoofAcrossModel", "tempers", "[I", true)
  | 12 => ("RoofAcrossModel", "tile", "[I", true)
  | 13 => ("RoofAcrossModel", "coin", "[I", true)
  | 14 => ("RoofAcrossModel", "harms", "[I", true)
  | 15 => ("RoofAcrossModel", "laidOn", "[I", true)
  | 16 => ("RoofAcrossModel", "leak", "[I", true)
  | 17 => ("RoofAcrossModel", "laidBefore", "[I", true)
  | 18 => ("RoofAcrossModel", "laidNow", "[I", true)
  | 19 => ("RoofAcrossModel", "wishes", "[I", true)
  | 20 => ("RoofAcrossModel", "has", "[I", true)
  | 21 => ("RoofAcrossModel", "most", "[I", true)
  | 22 => ("RoofAcrossModel", "facts", "I", false)
  | 23 => ("RoofAcrossModel", "factHouse", "[I", true)
  | 24 => ("RoofAcrossModel", "factRoof", "[I", true)
  | 25 => ("RoofAcrossModel", "factIs", "[I", true)
  | 26 => ("RoofAcrossModel", "mayOwn", "[I", true)
  | 27 => ("RoofAcrossModel", "ways", "[I", true)
  | 28 => ("RoofAcrossModel", "isThere", "[Z", true)
  | 29 => ("RoofAcrossModel", "forms", "[I", true)
  | 30 => ("RoofAcrossModel", "sizes", "[I", true)
  | 31 => ("RoofAcrossModel", "items", "[I", true)
  | 32 => ("RoofAcrossModel", "moved", "[I", true)
  | _ => ("RoofAcrossModel", "finding", "I", false)
def ct_N : Nat → FieldType := fun k => match k with
  | 0 => .array .int
  | 1 => .array .int
  | 2 => .int
  | 3 => .array .int
  | 4 => .array .int
  | 5 => .array .int
  | 6 => .array .int
  | 7 => .int
  | 8 => .array .int
  | 9 => .array .int
  | 10 => .array .int
  | 11 => .array .int
  | 12 => .array .int
  | 13 => .array .int
  | 14 => .array .int
  | 15 => .array .int
  | 16 => .array .int
  | 17 => .array .int
  | 18 => .array .int
  | 19 => .array .int
  | 20 => .array .int
  | 21 => .array .int
  | 22 => .int
  | 23 => .array .int
  | 24 => .array .int
  | 25 => .array .int
  | 26 => .array .int
  | 27 => .array .int
  | 28 => .array .boolean
  | 29 => .array .int
  | 30 => .array .int
  | 31 => .array .int
  | 32 => .array .int
  | _ => .int
theorem ca_N : ∀ a, a < 34 → ∀ b, b < 34 → a ≠ b → (cf_N a).2.1 ≠ (cf_N b).2.1 := by decide +kernel
theorem cp_N : ∀ k, k < 34 → parseFieldDescriptor (cf_N k).2.2.1 = some (ct_N k) := by decide +kernel
set_option maxRecDepth 100000 in
theorem ci_N : ∀ w ∈ u_ws cn_N cf_N 34, w ∈ ra_WS := ra_all [1041, 1043, 1045, 1047, 1049, 1051, 1053, 1055, 1057, 1059, 1061, 1063, 1065, 1067, 1069, 1071, 1073, 1075, 1077, 1079, 1081, 1083, 1085, 1087, 1089, 1091, 1093, 1095, 1097, 1099, 1101, 1103, 1105, 1107] (by decide +kernel) (by decide +kernel)
abbrev ra_cl : List vw_C := [(cn_R, cf_R, 10), (cn_V, cf_V, 12), (cn_T, cf_T, 3), (cn_Wt, cf_Wt, 5), (cn_Co, cf_Co, 11), (cn_So, cf_So, 5), (cn_Mo, cf_Mo, 8), (cn_Ex, cf_Ex, 11), (cn_Kn, cf_Kn, 12), (cn_He, cf_He, 3), (cn_Sh, cf_Sh, 4), (cn_N, cf_N, 34)]
def ra_clsL : List Nat := [4, 5, 6, 0, 6, 0, 0, 0, 0, 0, 0, 0, 7, 0, 9, 8, 0, 0, 0, 0, 0, 0, 0, 2, 0, 0, 0, 0, 10, 8, 0, 0, 0, 0, 0, 0, 0, 0, 0, 0, 0, 11, 2, 0, 0, 0, 0, 0, 0, 0, 0, 0, 0, 0, 12, 0, 0, 0, 0, 0, 0, 2, 0, 0, 0, 0, 0, 0, 0, 0, 13, 0, 0, 3, 14, 0, 14, 0, 14, 0, 14, 0, 15, 0, 0, 0, 0, 0, 0, 0, 0, 0, 0, 0, 0, 0, 0, 0, 0, 0, 0, 0, 0, 0, 0, 0, 0, 0, 1, 0, 0, 0, 0]
def ra_lenL : List Nat := [0, 0, 0, 40, 0, 40, 8, 8, 8, 8, 8, 8, 0, 12, 0, 0, 8, 8, 8, 8, 8, 8, 8, 4, 104, 104, 104, 104, 0, 0, 8, 8, 8, 8, 8, 8, 8, 8, 8, 8, 32, 0, 8, 8, 8, 8, 8, 8, 8, 8, 8, 8, 8, 256, 0, 12, 12, 12, 8, 256, 256, 8, 8, 8, 8, 8, 8, 8, 8, 8, 0, 8, 8, 4, 0, 48, 0, 48, 0, 48, 0, 48, 0, 2, 80, 9, 9, 9, 9, 12, 2, 8, 9, 9, 9, 9, 9, 9, 9, 9, 64, 9, 2304, 12, 12, 12, 9, 256, 4, 4, 4, 192, 48]
def ra_tgtL : List (List Nat) := [[1, 12, 14, 28, 41, 54, 70, 72, 73, 0], [2, 4, 6, 7, 8, 9, 10, 11, 0, 0, 0, 0], [3, 0, 0], [], [5, 0, 0], [], [], [], [], [], [], [], [13, 0, 0, 0, 0], [], [1, 12, 15, 23, 0], [1, 12, 16, 17, 18, 19, 20, 21, 22, 0, 0], [], [], [], [], [], [], [], [24, 25, 26, 27], [], [], [], [], [1, 12, 29, 37, 38, 39, 40, 0], [1, 12, 30, 31, 32, 33, 34, 35, 36, 0, 0], [], [], [], [], [], [], [], [], [], [], [], [1, 42, 51, 52, 53, 0, 0, 0, 0, 0, 0], [43, 44, 45, 46, 47, 48, 49, 50], [], [], [], [], [], [], [], [], [], [], [], [1, 55, 56, 57, 58, 59, 60, 61, 0, 0, 0, 0], [], [], [], [], [], [], [62, 63, 64, 65, 66, 67, 68, 69], [], [], [], [], [], [], [], [], [1, 12, 71], [], [], [74, 76, 78, 80], [75, 0, 0, 0], [], [77, 0, 0, 0], [], [79, 0, 0, 0], [], [81, 0, 0, 0], [], [83, 84, 0, 85, 86, 87, 88, 0, 89, 90, 91, 92, 93, 94, 95, 96, 97, 98, 99, 100, 101, 102, 0, 103, 104, 105, 106, 107, 108, 109, 110, 111, 112, 0], [], [], [], [], [], [], [], [], [], [], [], [], [], [], [], [], [], [], [], [], [], [], [], [], [], [], [], [], [], []]
/-- which fields of a made thing are addresses -/
def ra_rfL : List (List Bool) := [[true, true, true, true, true, true, true, true, true, false], [true, true, true, true, true, true, true, true, false, false, false, false], [true, false, false], [true, false, false, false, false], [true, true, true, true, true, true, true, true, true, false, false], [true, true, true, true, false], [true, true, true, true, true, true, true, false], [true, true, true, true, true, false, false, false, false, false, false], [true, true, true, true, true, true, true, true, false, false, false, false], [true, true, true], [true, false, false, false], [true, true, false, true, true, true, true, false, true, true, true, true, true, true, true, true, true, true, true, true, true, true, false, true, true, true, true, true, true, true, true, true, true, false]]
def ra_NC : Nat := 113
def ra_cls (c : Nat) : Nat := ra_clsL.getD c 99
def ra_len (c : Nat) : Nat := ra_lenL.getD c 0
def ra_tgt (c j : Nat) : Nat := (ra_tgtL.getD c []).getD j 0
def ra_rf (ci j : Nat) : Bool := (ra_rfL.getD ci []).getD j false
def ra_nf (ci : Nat) : Nat := (ra_rfL.getD ci []).length
theorem ra_clsE : ra_cls 0 = 4 ∧ ra_cls 1 = 5 ∧ ra_cls 2 = 6 ∧ ra_cls 3 = 0 ∧ ra_cls 4 = 6 ∧ ra_cls 5 = 0 ∧ ra_cls 6 = 0 ∧ ra_cls 7 = 0 ∧ ra_cls 8 = 0 ∧ ra_cls 9 = 0 ∧ ra_cls 10 = 0 ∧ ra_cls 11 = 0 ∧ ra_cls 12 = 7 ∧ ra_cls 13 = 0 ∧ ra_cls 14 = 9 ∧ ra_cls 15 = 8 ∧ ra_cls 16 = 0 ∧ ra_cls 17 = 0 ∧ ra_cls 18 = 0 ∧ ra_cls 19 = 0 ∧ ra_cls 20 = 0 ∧ ra_cls 21 = 0 ∧ ra_cls 22 = 0 ∧ ra_cls 23 = 2 ∧ ra_cls 24 = 0 ∧ ra_cls 25 = 0 ∧ ra_cls 26 = 0 ∧ ra_cls 27 = 0 ∧ ra_cls 28 = 10 ∧ ra_cls 29 = 8 ∧ ra_cls 30 = 0 ∧ ra_cls 31 = 0 ∧ ra_cls 32 = 0 ∧ ra_cls 33 = 0 ∧ ra_cls 34 = 0 ∧ ra_cls 35 = 0 ∧ ra_cls 36 = 0 ∧ ra_cls 37 = 0 ∧ ra_cls 38 = 0 ∧ ra_cls 39 = 0 ∧ ra_cls 40 = 0 ∧ ra_cls 41 = 11 ∧ ra_cls 42 = 2 ∧ ra_cls 43 = 0 ∧ ra_cls 44 = 0 ∧ ra_cls 45 = 0 ∧ ra_cls 46 = 0 ∧ ra_cls 47 = 0 ∧ ra_cls 48 = 0 ∧ ra_cls 49 = 0 ∧ ra_cls 50 = 0 ∧ ra_cls 51 = 0 ∧ ra_cls 52 = 0 ∧ ra_cls 53 = 0 ∧ ra_cls 54 = 12 ∧ ra_cls 55 = 0 ∧ ra_cls 56 = 0 ∧ ra_cls 57 = 0 ∧ ra_cls 58 = 0 ∧ ra_cls 59 = 0 ∧ ra_cls 60 = 0 ∧ ra_cls 61 = 2 ∧ ra_cls 62 = 0 ∧ ra_cls 63 = 0 ∧ ra_cls 64 = 0 ∧ ra_cls 65 = 0 ∧ ra_cls 66 = 0 ∧ ra_cls 67 = 0 ∧ ra_cls 68 = 0 ∧ ra_cls 69 = 0 ∧ ra_cls 70 = 13 ∧ ra_cls 71 = 0 ∧ ra_cls 72 = 0 ∧ ra_cls 73 = 3 ∧ ra_cls 74 = 14 ∧ ra_cls 75 = 0 ∧ ra_cls 76 = 14 ∧ ra_cls 77 = 0 ∧ ra_cls 78 = 14 ∧ ra_cls 79 = 0 ∧ ra_cls 80 = 14 ∧ ra_cls 81 = 0 ∧ ra_cls 82 = 15 ∧ ra_cls 83 = 0 ∧ ra_cls 84 = 0 ∧ ra_cls 85 = 0 ∧ ra_cls 86 = 0 ∧ ra_cls 87 = 0 ∧ ra_cls 88 = 0 ∧ ra_cls 89 = 0 ∧ ra_cls 90 = 0 ∧ ra_cls 91 = 0 ∧ ra_cls 92 = 0 ∧ ra_cls 93 = 0 ∧ ra_cls 94 = 0 ∧ ra_cls 95 = 0 ∧ ra_cls 96 = 0 ∧ ra_cls 97 = 0 ∧ ra_cls 98 = 0 ∧ ra_cls 99 = 0 ∧ ra_cls 100 = 0 ∧ ra_cls 101 = 0 ∧ ra_cls 102 = 0 ∧ ra_cls 103 = 0 ∧ ra_cls 104 = 0 ∧ ra_cls 105 = 0 ∧ ra_cls 106 = 0 ∧ ra_cls 107 = 0 ∧ ra_cls 108 = 1 ∧ ra_cls 109 = 0 ∧ ra_cls 110 = 0 ∧ ra_cls 111 = 0 ∧ ra_cls 112 = 0 := ⟨rfl, rfl, rfl, rfl, rfl, rfl, rfl, rfl, rfl, rfl, rfl, rfl, rfl, rfl, rfl, rfl, rfl, rfl, rfl, rfl, rfl, rfl, rfl, rfl, rfl, rfl, rfl, rfl, rfl, rfl, rfl, rfl, rfl, rfl, rfl, rfl, rfl, rfl, rfl, rfl, rfl, rfl, rfl, rfl, rfl, rfl, rfl, rfl, rfl, rfl, rfl, rfl, rfl, rfl, rfl, rfl, rfl, rfl, rfl, rfl, rfl, rfl, rfl, rfl, rfl, rfl, rfl, rfl, rfl, rfl, rfl, rfl, rfl, rfl, rfl, rfl, rfl, rfl, rfl, rfl, rfl, rfl, rfl, rfl, rfl, rfl, rfl, rfl, rfl, rfl, rfl, rfl, rfl, rfl, rfl, rfl, rfl, rfl, rfl, rfl, rfl, rfl, rfl, rfl, rfl, rfl, rfl, rfl, rfl, rfl, rfl, rfl, rfl⟩
theorem ra_lenE : ra_len 3 = 40 ∧ ra_len 5 = 40 ∧ ra_len 6 = 8 ∧ ra_len 7 = 8 ∧ ra_len 8 = 8 ∧ ra_len 9 = 8 ∧ ra_len 10 = 8 ∧ ra_len 11 = 8 ∧ ra_len 13 = 12 ∧ ra_len 16 = 8 ∧ ra_len 17 = 8 ∧ ra_len 18 = 8 ∧ ra_len 19 = 8 ∧ ra_len 20 = 8 ∧ ra_len 21 = 8 ∧ ra_len 22 = 8 ∧ ra_len 23 = 4 ∧ ra_len 24 = 104 ∧ ra_len 25 = 104 ∧ ra_len 26 = 104 ∧ ra_len 27 = 104 ∧ ra_len 30 = 8 ∧ ra_len 31 = 8 ∧ ra_len 32 = 8 ∧ ra_len 33 = 8 ∧ ra_len 34 = 8 ∧ ra_len 35 = 8 ∧ ra_len 36 = 8 ∧ ra_len 37 = 8 ∧ ra_len 38 = 8 ∧ ra_len 39 = 8 ∧ ra_len 40 = 32 ∧ ra_len 42 = 8 ∧ ra_len 43 = 8 ∧ ra_len 44 = 8 ∧ ra_len 45 = 8 ∧ ra_len 46 = 8 ∧ ra_len 47 = 8 ∧ ra_len 48 = 8 ∧ ra_len 49 = 8 ∧ ra_len 50 = 8 ∧ ra_len 51 = 8 ∧ ra_len 52 = 8 ∧ ra_len 53 = 256 ∧ ra_len 55 = 12 ∧ ra_len 56 = 12 ∧ ra_len 57 = 12 ∧ ra_len 58 = 8 ∧ ra_len 59 = 256 ∧ ra_len 60 = 256 ∧ ra_len 61 = 8 ∧ ra_len 62 = 8 ∧ ra_len 63 = 8 ∧ ra_len 64 = 8 ∧ ra_len 65 = 8 ∧ ra_len 66 = 8 ∧ ra_len 67 = 8 ∧ ra_len 68 = 8 ∧ ra_len 69 = 8 ∧ ra_len 71 = 8 ∧ ra_len 72 = 8 ∧ ra_len 73 = 4 ∧ ra_len 75 = 48 ∧ ra_len 77 = 48 ∧ ra_len 79 = 48 ∧ ra_len 81 = 48 ∧ ra_len 83 = 2 ∧ ra_len 84 = 80 ∧ ra_len 85 = 9 ∧ ra_len 86 = 9 ∧ ra_len 87 = 9 ∧ ra_len 88 = 9 ∧ ra_len 89 = 12 ∧ ra_len 90 = 2 ∧ ra_len 91 = 8 ∧ ra_len 92 = 9 ∧ ra_len 93 = 9 ∧ ra_len 94 = 9 ∧ ra_len 95 = 9 ∧ ra_len 96 = 9 ∧ ra_len 97 = 9 ∧ ra_len 98 = 9 ∧ ra_len 99 = 9 ∧ ra_len 100 = 64 ∧ ra_len 101 = 9 ∧ ra_len 102 = 2304 ∧ ra_len 103 = 12 ∧ ra_len 104 = 12 ∧ ra_len 105 = 12 ∧ ra_len 106 = 9 ∧ ra_len 107 = 256 ∧ ra_len 108 = 4 ∧ ra_len 109 = 4 ∧ ra_len 110 = 4 ∧ ra_len 111 = 192 ∧ ra_len 112 = 48 := ⟨rfl, rfl, rfl, rfl, rfl, rfl, rfl, rfl, rfl, rfl, rfl, rfl, rfl, rfl, rfl, rfl, rfl, rfl, rfl, rfl, rfl, rfl, rfl, rfl, rfl, rfl, rfl, rfl, rfl, rfl, rfl, rfl, rfl, rfl, rfl, rfl, rfl, rfl, rfl, rfl, rfl, rfl, rfl, rfl, rfl, rfl, rfl, rfl, rfl, rfl, rfl, rfl, rfl, rfl, rfl, rfl, rfl, rfl, rfl, rfl, rfl, rfl, rfl, rfl, rfl, rfl, rfl, rfl, rfl, rfl, rfl, rfl, rfl, rfl, rfl, rfl, rfl, rfl, rfl, rfl, rfl, rfl, rfl, rfl, rfl, rfl, rfl, rfl, rfl, rfl, rfl, rfl, rfl, rfl, rfl, rfl⟩
theorem ra_tgtE : ra_tgt 0 0 = 1 ∧ ra_tgt 0 1 = 12 ∧ ra_tgt 0 2 = 14 ∧ ra_tgt 0 3 = 28 ∧ ra_tgt 0 4 = 41 ∧ ra_tgt 0 5 = 54 ∧ ra_tgt 0 6 = 70 ∧ ra_tgt 0 7 = 72 ∧ ra_tgt 0 8 = 73 ∧ ra_tgt 1 0 = 2 ∧ ra_tgt 1 1 = 4 ∧ ra_tgt 1 2 = 6 ∧ ra_tgt 1 3 = 7 ∧ ra_tgt 1 4 = 8 ∧ ra_tgt 1 5 = 9 ∧ ra_tgt 1 6 = 10 ∧ ra_tgt 1 7 = 11 ∧ ra_tgt 2 0 = 3 ∧ ra_tgt 4 0 = 5 ∧ ra_tgt 12 0 = 13 ∧ ra_tgt 14 0 = 1 ∧ ra_tgt 14 1 = 12 ∧ ra_tgt 14 2 = 15 ∧ ra_tgt 14 3 = 23 ∧ ra_tgt 15 0 = 1 ∧ ra_tgt 15 1 = 12 ∧ ra_tgt 15 2 = 16 ∧ ra_tgt 15 3 = 17 ∧ ra_tgt 15 4 = 18 ∧ ra_tgt 15 5 = 19 ∧ ra_tgt 15 6 = 20 ∧ ra_tgt 15 7 = 21 ∧ ra_tgt 15 8 = 22 ∧ ra_tgt 23 0 = 24 ∧ ra_tgt 23 1 = 25 ∧ ra_tgt 23 2 = 26 ∧ ra_tgt 23 3 = 27 ∧ ra_tgt 28 0 = 1 ∧ ra_tgt 28 1 = 12 ∧ ra_tgt 28 2 = 29 ∧ ra_tgt 28 3 = 37 ∧ ra_tgt 28 4 = 38 ∧ ra_tgt 28 5 = 39 ∧ ra_tgt 28 6 = 40 ∧ ra_tgt 29 0 = 1 ∧ ra_tgt 29 1 = 12 ∧ ra_tgt 29 2 = 30 ∧ ra_tgt 29 3 = 31 ∧ ra_tgt 29 4 = 32 ∧ ra_tgt 29 5 = 33 ∧ ra_tgt 29 6 = 34 ∧ ra_tgt 29 7 = 35 ∧ ra_tgt 29 8 = 36 ∧ ra_tgt 41 0 = 1 ∧ ra_tgt 41 1 = 42 ∧ ra_tgt 41 2 = 51 ∧ ra_tgt 41 3 = 52 ∧ ra_tgt 41 4 = 53 ∧ ra_tgt 42 0 = 43 ∧ ra_tgt 42 1 = 44 ∧ ra_tgt 42 2 = 45 ∧ ra_tgt 42 3 = 46 ∧ ra_tgt 42 4 = 47 ∧ ra_tgt 42 5 = 48 ∧ ra_tgt 42 6 = 49 ∧ ra_tgt 42 7 = 50 ∧ ra_tgt 54 0 = 1 ∧ ra_tgt 54 1 = 55 ∧ ra_tgt 54 2 = 56 ∧ ra_tgt 54 3 = 57 ∧ ra_tgt 54 4 = 58 ∧ ra_tgt 54 5 = 59 ∧ ra_tgt 54 6 = 60 ∧ ra_tgt 54 7 = 61 ∧ ra_tgt 61 0 = 62 ∧ ra_tgt 61 1 = 63 ∧ ra_tgt 61 2 = 64 ∧ ra_tgt 61 3 = 65 ∧ ra_tgt 61 4 = 66 ∧ ra_tgt 61 5 = 67 ∧ ra_tgt 61 6 = 68 ∧ ra_tgt 61 7 = 69 ∧ ra_tgt 70 0 = 1 ∧ ra_tgt 70 1 = 12 ∧ ra_tgt 70 2 = 71 ∧ ra_tgt 73 0 = 74 ∧ ra_tgt 73 1 = 76 ∧ ra_tgt 73 2 = 78 ∧ ra_tgt 73 3 = 80 ∧ ra_tgt 74 0 = 75 ∧ ra_tgt 76 0 = 77 ∧ ra_tgt 78 0 = 79 ∧ ra_tgt 80 0 = 81 ∧ ra_tgt 82 0 = 83 ∧ ra_tgt 82 1 = 84 ∧ ra_tgt 82 3 = 85 ∧ ra_tgt 82 4 = 86 ∧ ra_tgt 82 5 = 87 ∧ ra_tgt 82 6 = 88 ∧ ra_tgt 82 8 = 89 ∧ ra_tgt 82 9 = 90 ∧ ra_tgt 82 10 = 91 ∧ ra_tgt 82 11 = 92 ∧ ra_tgt 82 12 = 93 ∧ ra_tgt 82 13 = 94 ∧ ra_tgt 82 14 = 95 ∧ ra_tgt 82 15 = 96 ∧ ra_tgt 82 16 = 97 ∧ ra_tgt 82 17 = 98 ∧ ra_tgt 82 18 = 99 ∧ ra_tgt 82 19 = 100 ∧ ra_tgt 82 20 = 101 ∧ ra_tgt 82 21 = 102 ∧ ra_tgt 82 23 = 103 ∧ ra_tgt 82 24 = 104 ∧ ra_tgt 82 25 = 105 ∧ ra_tgt 82 26 = 106 ∧ ra_tgt 82 27 = 107 ∧ ra_tgt 82 28 = 108 ∧ ra_tgt 82 29 = 109 ∧ ra_tgt 82 30 = 110 ∧ ra_tgt 82 31 = 111 ∧ ra_tgt 82 32 = 112 := ⟨rfl, rfl, rfl, rfl, rfl, rfl, rfl, rfl, rfl, rfl, rfl, rfl, rfl, rfl, rfl, rfl, rfl, rfl, rfl, rfl, rfl, rfl, rfl, rfl, rfl, rfl, rfl, rfl, rfl, rfl, rfl, rfl, rfl, rfl, rfl, rfl, rfl, rfl, rfl, rfl, rfl, rfl, rfl, rfl, rfl, rfl, rfl, rfl, rfl, rfl, rfl, rfl, rfl, rfl, rfl, rfl, rfl, rfl, rfl, rfl, rfl, rfl, rfl, rfl, rfl, rfl, rfl, rfl, rfl, rfl, rfl, rfl, rfl, rfl, rfl, rfl, rfl, rfl, rfl, rfl, rfl, rfl, rfl, rfl, rfl, rfl, rfl, rfl, rfl, rfl, rfl, rfl, rfl, rfl, rfl, rfl, rfl, rfl, rfl, rfl, rfl, rfl, rfl, rfl, rfl, rfl, rfl, rfl, rfl, rfl, rfl, rfl, rfl, rfl, rfl, rfl, rfl, rfl, rfl, rfl, rfl, rfl, rfl⟩
