def RX0 : String := "ScaleShop$Box"
def TX0 : u_T := fun k => match k with
  | 0 => ("ScaleShop$Box", "left", "I", false)
  | 1 => ("ScaleShop$Box", "low", "I", false)
  | 2 => ("ScaleShop$Box", "right", "I", false)
  | _ => ("ScaleShop$Box", "high", "I", false)
def tyX0 : Nat → FieldType := fun k => match k with
  | 0 => .int
  | 1 => .int
  | 2 => .int
  | _ => .int
abbrev wsX00 : List Cond := u_ws RX0 TX0 4
theorem nmX0 : ∀ a, a < 4 → ∀ b, b < 4 → a ≠ b → (TX0 a).2.1 ≠ (TX0 b).2.1 := by decide +kernel
theorem tyX0_ok : ∀ k, k < 4 → parseFieldDescriptor (TX0 k).2.2.1 = some (tyX0 k) := by decide +kernel
def RX2 : String := "ScaleShop$Feature"
def TX2 : u_T := fun k => match k with
  | 0 => ("ScaleShop$Feature", "rank", "I", true)
  | 1 => ("ScaleShop$Feature", "width", "I", true)
  | 2 => ("ScaleShop$Feature", "town", "I", true)
  | 3 => ("ScaleShop$Feature", "firstPart", "I", false)
  | 4 => ("ScaleShop$Feature", "secondPart", "I", false)
  | 5 => ("ScaleShop$Feature", "lost", "LScaleShop$Row;", true)
  | 6 => ("ScaleShop$Feature", "now", "LScaleShop$Look;", false)
  | _ => ("ScaleShop$Feature", "former", "LScaleShop$Look;", false)
def tyX2 : Nat → FieldType := fun k => match k with
  | 0 => .int
  | 1 => .int
  | 2 => .int
  | 3 => .int
  | 4 => .int
  | 5 => .object "ScaleShop$Row"
  | 6 => .object "ScaleShop$Look"
  | _ => .object "ScaleShop$Look"
abbrev wsX20 : List Cond := u_ws RX2 TX2 8
theorem nmX2 : ∀ a, a < 8 → ∀ b, b < 8 → a ≠ b → (TX2 a).2.1 ≠ (TX2 b).2.1 := by decide +kernel
theorem tyX2_ok : ∀ k, k < 8 → parseFieldDescriptor (TX2 k).2.2.1 = some (tyX2 k) := by decide +kernel
def RX3 : String := "ScaleShop$Fraction"
def TX3 : u_T := fun k => match k with
  | 0 => ("ScaleShop$Fraction", "over", "J", false)
  | _ => ("ScaleShop$Fraction", "under", "J", false)
def tyX3 : Nat → FieldType := fun k => match k with
  | 0 => .long
  | _ => .long
abbrev wsX30 : List Cond := u_ws RX3 TX3 2
theorem nmX3 : ∀ a, a < 2 → ∀ b, b < 2 → a ≠ b → (TX3 a).2.1 ≠ (TX3 b).2.1 := by decide +kernel
theorem tyX3_ok : ∀ k, k < 2 → parseFieldDescriptor (TX3 k).2.2.1 = some (tyX3 k) := by decide +kernel
def RX4 : String := "ScaleShop$Law"
def TX4 : u_T := fun k => match k with
  | 0 => ("ScaleShop$Law", "draft", "LScaleShop$Row;", true)
  | 1 => ("ScaleShop$Law", "triangle", "LScaleShop$Row;", true)
  | 2 => ("ScaleShop$Law", "way", "LScaleShop$Row;", true)
  | 3 => ("ScaleShop$Law", "reach", "LScaleShop$Box;", true)
  | 4 => ("ScaleShop$Law", "otherBox", "LScaleShop$Box;", true)
  | _ => ("ScaleShop$Law", "areas", "[I", true)
def tyX4 : Nat → FieldType := fun k => match k with
  | 0 => .object "ScaleShop$Row"
  | 1 => .object "ScaleShop$Row"
  | 2 => .object "ScaleShop$Row"
  | 3 => .object "ScaleShop$Box"
  | 4 => .object "ScaleShop$Box"
  | _ => .array .int
abbrev wsX40 : List Cond := u_ws RX4 TX4 6
theorem nmX4 : ∀ a, a < 6 → ∀ b, b < 6 → a ≠ b → (TX4 a).2.1 ≠ (TX4 b).2.1 := by decide +kernel
theorem tyX4_ok : ∀ k, k < 6 → parseFieldDescriptor (TX4 k).2.2.1 = some (tyX4 k) := by decide +kernel
def RX5 : String := "ScaleShop$Look"
def TX5 : u_T := fun k => match k with
  | 0 => ("ScaleShop$Look", "kind", "I", false)
  | 1 => ("ScaleShop$Look", "state", "I", false)
  | 2 => ("ScaleShop$Look", "row", "LScaleShop$Row;", false)
  | 3 => ("ScaleShop$Look", "goneBy", "I", false)
  | 4 => ("ScaleShop$Look", "joinedTo", "I", false)
  | _ => ("ScaleShop$Look", "went", "I", false)
def tyX5 : Nat → FieldType := fun k => match k with
  | 0 => .int
  | 1 => .int
  | 2 => .object "ScaleShop$Row"
  | 3 => .int
  | 4 => .int
  | _ => .int
abbrev wsX50 : List Cond := u_ws RX5 TX5 6
theorem nmX5 : ∀ a, a < 6 → ∀ b, b < 6 → a ≠ b → (TX5 a).2.1 ≠ (TX5 b).2.1 := by decide +kernel
theorem tyX5_ok : ∀ k, k < 6 → parseFieldDescriptor (TX5 k).2.2.1 = some (tyX5 k) := by decide +kernel
def RX6 : String := "ScaleShop$Roads"
def TX6 : u_T := fun k => match k with
  | 0 => ("ScaleShop$Roads", "roads", "[LScaleShop$Feature;", true)
  | 1 => ("ScaleShop$Roads", "weights", "[I", true)
  | 2 => ("ScaleShop$Roads", "endX", "[I", true)
  | 3 => ("ScaleShop$Roads", "endY", "[I", true)
  | 4 => ("ScaleShop$Roads", "groups", "[I", true)
  | _ => ("ScaleShop$Roads", "n", "I", false)
def tyX6 : Nat → FieldType := fun k => match k with
  | 0 => .array (.object "ScaleShop$Feature")
  | 1 => .array .int
  | 2 => .array .int
  | 3 => .array .int
  | 4 => .array .int
  | _ => .int
abbrev wsX60 : List Cond := u_ws RX6 TX6 6
theorem nmX6 : ∀ a, a < 6 → ∀ b, b < 6 → a ≠ b → (TX6 a).2.1 ≠ (TX6 b).2.1 := by decide +kernel
theorem tyX6_ok : ∀ k, k < 6 → parseFieldDescriptor (TX6 k).2.2.1 = some (tyX6 k) := by decide +kernel
def RX7 : String := "ScaleShop$Row"
def TX7 : u_T := fun k => match k with
  | 0 => ("ScaleShop$Row", "x", "[I", true)
  | 1 => ("ScaleShop$Row", "y", "[I", true)
  | 2 => ("ScaleShop$Row", "n", "I", false)
  | _ => ("ScaleShop$Row", "ring", "Z", false)
def tyX7 : Nat → FieldType := fun k => match k with
  | 0 => .array .int
  | 1 => .array .int
  | 2 => .int
  | _ => .boolean
abbrev wsX70 : List Cond := u_ws RX7 TX7 4
theorem nmX7 : ∀ a, a < 4 → ∀ b, b < 4 → a ≠ b → (TX7 a).2.1 ≠ (TX7 b).2.1 := by decide +kernel
theorem tyX7_ok : ∀ k, k < 4 → parseFieldDescriptor (TX7 k).2.2.1 = some (tyX7 k) := by decide +kernel
def RX8 : String := "ScaleShop$Sheet"
def TX8 : u_T := fun k => match k with
  | 0 => ("ScaleShop$Sheet", "features", "[LScaleShop$Feature;", true)
  | _ => ("ScaleShop$Sheet", "total", "I", false)
def tyX8 : Nat → FieldType := fun k => match k with
  | 0 => .array (.object "ScaleShop$Feature")
  | _ => .int
abbrev wsX80 : List Cond := u_ws RX8 TX8 2
theorem nmX8 : ∀ a, a < 2 → ∀ b, b < 2 → a ≠ b → (TX8 a).2.1 ≠ (TX8 b).2.1 := by decide +kernel
theorem tyX8_ok : ∀ k, k < 2 → parseFieldDescriptor (TX8 k).2.2.1 = some (tyX8 k) := by decide +kernel
def RX10 : String := "ScaleShop"
def TX10 : u_T := fun k => match k with
  | 0 => ("ScaleShop", "sheet", "LScaleShop$Sheet;", true)
  | 1 => ("ScaleShop", "law", "LScaleShop$Law;", true)
  | 2 => ("ScaleShop", "roads", "LScaleShop$Roads;", true)
  | 3 => ("ScaleShop", "box", "LScaleShop$Box;", true)
  | 4 => ("ScaleShop", "otherBox", "LScaleShop$Box;", true)
  | 5 => ("ScaleShop", "distance", "LScaleShop$Fraction;", true)
  | 6 => ("ScaleShop", "farthest", "LScaleShop$Fraction;", true)
  | 7 => ("ScaleShop", "leaves", "[Z", true)
  | 8 => ("ScaleShop", "steps", "Ljava/util/ArrayList;", true)
  | 9 => ("ScaleShop", "doneSteps", "I", false)
  | 10 => ("ScaleShop", "sealedSteps", "I", false)
  | 11 => ("ScaleShop", "unlawful", "I", false)
  | _ => ("ScaleShop", "status", "I", false)
def tyX10 : Nat → FieldType := fun k => match k with
  | 0 => .object "ScaleShop$Sheet"
  | 1 => .object "ScaleShop$Law"
  | 2 => .object "ScaleShop$Roads"
  | 3 => .object "ScaleShop$Box"
  | 4 => .object "ScaleShop$Box"
  | 5 => .object "ScaleShop$Fraction"
  | 6 => .object "ScaleShop$Fraction"
  | 7 => .array .boolean
  | 8 => .object "java/util/ArrayList"
  | 9 => .int
  | 10 => .int
  | 11 => .int
  | _ => .int
abbrev wsX100 : List Cond := u_ws RX10 TX10 13
theorem nmX10 : ∀ a, a < 13 → ∀ b, b < 13 → a ≠ b → (TX10 a).2.1 ≠ (TX10 b).2.1 := by decide +kernel
theorem tyX10_ok : ∀ k, k < 13 → parseFieldDescriptor (TX10 k).2.2.1 = some (tyX10 k) := by decide +kernel
def RX11 : String := "ScaleShopModel"
def TX11 : u_T := fun k => match k with
  | 0 => ("ScaleShopModel", "features", "I", false)
  | 1 => ("ScaleShopModel", "kind", "[I", true)
  | 2 => ("ScaleShopModel", "rank", "[I", true)
  | 3 => ("ScaleShopModel", "width", "[I", true)
  | 4 => ("ScaleShopModel", "town", "[I", true)
  | 5 => ("ScaleShopModel", "state", "[I", true)
  | 6 => ("ScaleShopModel", "torn", "[Z", true)
  | 7 => ("ScaleShopModel", "goneBy", "[I", true)
  | 8 => ("ScaleShopModel", "partA", "[I", true)
  | 9 => ("ScaleShopModel", "partB", "[I", true)
  | 10 => ("ScaleShopModel", "into", "[I", true)
  | 11 => ("ScaleShopModel", "many", "[I", true)
  | 12 => ("ScaleShopModel", "cx", "[I", true)
  | 13 => ("ScaleShopModel", "cy", "[I", true)
  | 14 => ("ScaleShopModel", "status", "I", false)
  | 15 => ("ScaleShopModel", "refused", "I", false)
  | 16 => ("ScaleShopModel", "which", "[I", true)
  | 17 => ("ScaleShopModel", "of", "[I", true)
  | 18 => ("ScaleShopModel", "went", "[I", true)
  | 19 => ("ScaleShopModel", "done", "I", false)
  | 20 => ("ScaleShopModel", "redoable", "I", false)
  | 21 => ("ScaleShopModel", "base", "I", false)
  | 22 => ("ScaleShopModel", "lostFeature", "[I", false)
  | 23 => ("ScaleShopModel", "lostX", "[I", false)
  | 24 => ("ScaleShopModel", "lostY", "[I", false)
  | 25 => ("ScaleShopModel", "lostStep", "[I", false)
  | 26 => ("ScaleShopModel", "lost", "I", false)
  | 27 => ("ScaleShopModel", "sheetAt", "[I", true)
  | 28 => ("ScaleShopModel", "sheets", "[I", false)
  | 29 => ("ScaleShopModel", "px", "[I", true)
  | 30 => ("ScaleShopModel", "py", "[I", true)
  | 31 => ("ScaleShopModel", "pn", "I", false)
  | 32 => ("ScaleShopModel", "s", "[I", true)
  | 33 => ("ScaleShopModel", "ox", "[I", true)
  | 34 => ("ScaleShopModel", "oy", "[I", true)
  | 35 => ("ScaleShopModel", "on", "I", false)
  | 36 => ("ScaleShopModel", "oldKind", "I", false)
  | 37 => ("ScaleShopModel", "met", "[Z", true)
  | 38 => ("ScaleShopModel", "within", "[Z", true)
  | 39 => ("ScaleShopModel", "inside", "[Z", true)
  | 40 => ("ScaleShopModel", "t", "[I", true)
  | 41 => ("ScaleShopModel", "writeAt", "I", false)
  | 42 => ("ScaleShopModel", "readAt", "I", false)
  | 43 => ("ScaleShopModel", "failed", "[Z", true)
  | 44 => ("ScaleShopModel", "lx", "I", false)
  | 45 => ("ScaleShopModel", "ly", "I", false)
  | 46 => ("ScaleShopModel", "hx", "I", false)
  | 47 => ("ScaleShopModel", "hy", "I", false)
  | 48 => ("ScaleShopModel", "up", "J", false)
  | 49 => ("ScaleShopModel", "down", "J", false)
  | 50 => ("ScaleShopModel", "marked", "[Z", true)
  | 51 => ("ScaleShopModel", "joinX", "[I", true)
  | 52 => ("ScaleShopModel", "joinY", "[I", true)
  | 53 => ("ScaleShopModel", "group", "[I", true)
  | _ => ("ScaleShopModel", "places", "I", false)
def tyX11 : Nat → FieldType := fun k => match k with
  | 0 => .int
  | 1 => .array .int
  | 2 => .array .int
  | 3 => .array .int
  | 4 => .array .int
  | 5 => .array .int
  | 6 => .array .boolean
  | 7 => .array .int
  | 8 => .array .int
  | 9 => .array .int
  | 10 => .array .int
  | 11 => .array .int
  | 12 => .array .int
  | 13 => .array .int
  | 14 => .int
  | 15 => .int
  | 16 => .array .int
  | 17 => .array .int
  | 18 => .array .int
  | 19 => .int
  | 20 => .int
  | 21 => .int
  | 22 => .array .int
  | 23 => .array .int
  | 24 => .array .int
  | 25 => .array .int
  | 26 => .int
  | 27 => .array .int
  | 28 => .array .int
  | 29 => .array .int
  | 30 => .array .int
  | 31 => .int
  | 32 => .array .int
  | 33 => .array .int
  | 34 => .array .int
  | 35 => .int
  | 36 => .int
  | 37 => .array .boolean
  | 38 => .array .boolean
  | 39 => .array .boolean
  | 40 => .array .int
  | 41 => .int
  | 42 => .int
  | 43 => .array .boolean
  | 44 => .int
  | 45 => .int
  | 46 => .int
  | 47 => .int
  | 48 => .long
  | 49 => .long
  | 50 => .array .boolean
  | 51 => .array .int
  | 52 => .array .int
  | 53 => .array .int
  | _ => .int
abbrev wsX110 : List Cond := u_ws RX11 TX11 55
theorem nmX11 : ∀ a, a < 55 → ∀ b, b < 55 → a ≠ b → (TX11 a).2.1 ≠ (TX11 b).2.1 := by decide +kernel
theorem tyX11_ok : ∀ k, k < 55 → parseFieldDescriptor (TX11 k).2.2.1 = some (tyX11 k) := by decide +kernel
def RJx4a65c : String := "java/util/ArrayList"
def TJx4a65c : u_T := fun k => match k with
  | 0 => ("java/util/AbstractList", "modCount", "I", false)
  | 1 => ("java/util/ArrayList", "elementData", "[Ljava/lang/Object;", false)
  | _ => ("java/util/ArrayList", "size", "I", false)
def tyJx4a65c : Nat → FieldType := fun k => match k with
  | 0 => .int
  | 1 => .array (.object "java/lang/Object")
  | _ => .int
abbrev wsJx4a65c0 : List Cond := u_ws RJx4a65c TJx4a65c 3
theorem nmJx4a65c : ∀ a, a < 3 → ∀ b, b < 3 → a ≠ b → (TJx4a65c a).2.1 ≠ (TJx4a65c b).2.1 := by decide +kernel
theorem tyJx4a65c_ok : ∀ k, k < 3 → parseFieldDescriptor (TJx4a65c k).2.2.1 = some (tyJx4a65c k) := by decide +kernel
abbrev classes : List vw_C := [(RX0, TX0, 4), (RX2, TX2, 8), (RX3, TX3, 2), (RX4, TX4, 6), (RX5, TX5, 6), (RX6, TX6, 6), (RX7, TX7, 4), (RX8, TX8, 2), (RX10, TX10, 13), (RX11, TX11, 55), (RJx4a65c, TJx4a65c, 3)]
abbrev zTy (cI cZ cF : ClassId) : List (ClassId × FieldType) := [(cI, .int), (cZ, .boolean), (cF, .object "ScaleShop$Feature")]
theorem dfX0 : ∀ j, j < 4 → defaultValue (tyX0 j) = vp_V [.int 0, .int 0, .int 0, .int 0] j := by decide +kernel
theorem inX0 : ∀ w ∈ u_ws RX0 TX0 4, w ∈ ws0 := zz_in _ [210, 212, 214, 216] (by decide +kernel) (by decide +kernel)
theorem dfX2 : ∀ j, j < 8 → defaultValue (tyX2 j) = vp_V [.int 0, .int 0, .int 0, .int 0, .int 0, .null, .null, .null] j := by decide +kernel
theorem inX2 : ∀ w ∈ u_ws RX2 TX2 8, w ∈ ws0 := zz_in _ [438, 440, 442, 444, 446, 448, 450, 452] (by decide +kernel) (by decide +kernel)
theorem dfX3 : ∀ j, j < 2 → defaultValue (tyX3 j) = vp_V [.long 0, .long 0] j := by decide +kernel
theorem inX3 : ∀ w ∈ u_ws RX3 TX3 2, w ∈ ws0 := zz_in _ [277, 279] (by decide +kernel) (by decide +kernel)
theorem dfX4 : ∀ j, j < 6 → defaultValue (tyX4 j) = vp_V [.null, .null, .null, .null, .null, .null] j := by decide +kernel
theorem inX4 : ∀ w ∈ u_ws RX4 TX4 6, w ∈ ws0 := zz_in _ [226, 228, 230, 232, 234, 236] (by decide +kernel) (by decide +kernel)
theorem dfX5 : ∀ j, j < 6 → defaultValue (tyX5 j) = vp_V [.int 0, .int 0, .null, .int 0, .int 0, .int 0] j := by decide +kernel
theorem inX5 : ∀ w ∈ u_ws RX5 TX5 6, w ∈ ws0 := zz_in _ [402, 404, 406, 408, 410, 412] (by decide +kernel) (by decide +kernel)
theorem dfX6 : ∀ j, j < 6 → defaultValue (tyX6 j) = vp_V [.null, .null, .null, .null, .null, .int 0] j := by decide +kernel
theorem inX6 : ∀ w ∈ u_ws RX6 TX6 6, w ∈ ws0 := zz_in _ [252, 254, 256, 258, 260, 262] (by decide +kernel) (by decide +kernel)
theorem dfX7 : ∀ j, j < 4 → defaultValue (tyX7 j) = vp_V [.null, .null, .int 0, .int 0] j := by decide +kernel
theorem inX7 : ∀ w ∈ u_ws RX7 TX7 4, w ∈ ws0 := zz_in _ [186, 188, 190, 192] (by decide +kernel) (by decide +kernel)
theorem dfX8 : ∀ j, j < 2 → defaultValue (tyX8 j) = vp_V [.null, .int 0] j := by decide +kernel
theorem inX8 : ∀ w ∈ u_ws RX8 TX8 2, w ∈ ws0 := zz_in _ [141, 143] (by decide +kernel) (by decide +kernel)
theorem dfX10 : ∀ j, j < 13 → defaultValue (tyX10 j) = vp_V [.null, .null, .null, .null, .null, .null, .null, .null, .null, .int 0, .int 0, .int 0, .int 0] j := by decide +kernel
theorem inX10 : ∀ w ∈ u_ws RX10 TX10 13, w ∈ ws0 := zz_in _ [322, 324, 326, 328, 330, 332, 334, 336, 338, 340, 342, 344, 346] (by decide +kernel) (by decide +kernel)
theorem dfX11 : ∀ j, j < 55 → defaultValue (tyX11 j) = vp_V [.int 0, .null, .null, .null, .null, .null, .null, .null, .null, .null, .null, .null, .null, .null, .int 0, .int 0, .null, .null, .null, .int 0, .int 0, .int 0, .null, .null, .null, .null, .int 0, .null, .null, .null, .null, .int 0, .null, .null, .null, .int 0, .int 0, .null, .null, .null, .null, .int 0, .int 0, .null, .int 0, .int 0, .int 0, .int 0, .long 0, .long 0, .null, .null, .null, .null, .int 0] j := by decide +kernel
theorem inX11 : ∀ w ∈ u_ws RX11 TX11 55, w ∈ ws0 := zz_in _ [1214, 1216, 1218, 1220, 1222, 1224, 1226, 1228, 1230, 1232, 1234, 1236, 1238, 1240, 1242, 1244, 1246, 1248, 1250, 1252, 1254, 1256, 1258, 1260, 1262, 1264, 1266, 1268, 1270, 1272, 1274, 1276, 1278, 1280, 1282, 1284, 1286, 1288, 1290, 1292, 1294, 1296, 1298, 1300, 1302, 1304, 1306, 1308, 1310, 1312, 1314, 1316, 1318, 1320, 1322] (by decide +kernel) (by decide +kernel)
theorem dfJx4a65c : ∀ j, j < 3 → defaultValue (tyJx4a65c j) = vp_V [.int 0, .null, .int 0] j := by decide +kernel
theorem inJx4a65c : ∀ w ∈ u_ws RJx4a65c TJx4a65c 3, w ∈ ws0 := zz_in _ [305, 301, 303] (by decide +kernel) (by decide +kernel)
/-! what the constructors want of the start: the class of arrays of features, the empty row that lists begin with -/
def zXA : State → Prop := va_AO "ScaleShop$Feature"
def zXZ (e0 : Nat) (A : Nat → Prop) : State → Prop := fun U => va_Z "java/util/ArrayList" "DEFAULTCAPACITY_EMPTY_ELEMENTDATA" "[Ljava/lang/Object;" (.ref e0) A U U.heap
theorem zXA_c (a : Array Value) (U : State) (g : JFrame) (mk : MethodId) (h : zXA U) : zXA (U.calling g mk a) := va_AO.moved (u := U) (U := U.calling g mk a) (Vm.Alike.refl U.vm) h
theorem zXZ_c {e0 : Nat} {A : Nat → Prop} (a : Array Value) (U : State) (g : JFrame) (mk : MethodId) (h : zXZ e0 A U) : zXZ e0 A (U.calling g mk a) := va_Z.moved (u := U) (U := U.calling g mk a) (Vm.Alike.refl U.vm) h
theorem zXZ_at {e0 : Nat} {A A1 : Nat → Prop} {s U : State} {H : Heap} {locs : List Loc} (hZ : zXZ e0 A s) (hS : va_S A s.heap H locs) (hF : ∀ q, A1 q → A q) (hU : U.heap = H) (hW : s.WarmedH U.vm) : zXZ e0 A1 U := by
  show va_Z _ _ _ _ A1 U U.heap
  rw [hU]
  exact ((va_Z.kept hZ hS.2.1).narrow hF).moved hW.alike
theorem zPSA {s : State} {H : Heap} {D : va_G} {cl : List vw_C} {tys : List (ClassId × FieldType)} {w : va_W} {A : Nat → Prop} {av : List Value} (hP : va_P D cl w H) (hD : va_D A w) (hK : va_K D cl tys s) (hAO : zXA s) : PreS s H (va_Pc av (zPre D cl tys w H.size zXA)) av :=
  ⟨zBlind zXA_c, zAt hP hD hK (fun _ _ hW => va_AO.moved hW.alike hAO)⟩
theorem zPSZ {s : State} {H : Heap} {D : va_G} {cl : List vw_C} {tys : List (ClassId × FieldType)} {w : va_W} {A A1 A2 : Nat → Prop} {av : List Value} {e0 : Nat} {locs : List Loc} (hP : va_P D cl w H) (hD : va_D A1 w) (hK : va_K D cl tys s) (hZ : zXZ e0 A s) (hS : va_S A s.heap H locs) (hF : ∀ q, A2 q → A q) : PreS s H (va_Pc av (zPre D cl tys w H.size (zXZ e0 A2))) av :=
  ⟨zBlind zXZ_c, zAt hP hD hK (fun _ hU hW => zXZ_at hZ hS hF hU hW)⟩
theorem zPSAZ {s : State} {H : Heap} {D : va_G} {cl : List vw_C} {tys : List (ClassId × FieldType)} {w : va_W} {A A1 A2 : Nat → Prop} {av : List Value} {e0 : Nat} {locs : List Loc} (hP : va_P D cl w H) (hD : va_D A1 w) (hK : va_K D cl tys s) (hAO : zXA s) (hZ : zXZ e0 A s) (hS : va_S A s.heap H locs) (hF : ∀ q, A2 q → A q) : PreS s H (va_Pc av (zPre D cl tys w H.size (fun U => zXA U ∧ zXZ e0 A2 U))) av :=
  ⟨zBlind (fun a U g mk h => ⟨zXA_c a U g mk h.1, zXZ_c a U g mk h.2⟩), zAt hP hD hK (fun _ hU hW => ⟨va_AO.moved hW.alike hAO, zXZ_at hZ hS hF hU hW⟩)⟩
theorem zz_cases8 (x : Int32) : x = 0 ∨ x = 1 ∨ x = 2 ∨ x = 3 ∨ x = 4 ∨ x = 5 ∨ x = 6 ∨ x = 7 ∨ (x.toInt < 0 ∨ 7 < x.toInt) := by
  have key : ∀ k : Int32, x.toInt = k.toInt → x = k := fun k h => Int32.toInt_inj.mp h
  have h : x.toInt = 0 ∨ x.toInt = 1 ∨ x.toInt = 2 ∨ x.toInt = 3 ∨ x.toInt = 4 ∨ x.toInt = 5 ∨ x.toInt = 6 ∨ x.toInt = 7 ∨ (x.toInt < 0 ∨ 7 < x.toInt) := by omega
  rcases h with h | h | h | h | h | h | h | h | h
  · exact Or.inl (key 0 h)
  · exact Or.inr (Or.inl (key 1 h))
  · exact Or.inr (Or.inr (Or.inl (key 2 h)))
  · exact Or.inr (Or.inr (Or.inr (Or.inl (key 3 h))))
  · exact Or.inr (Or.inr (Or.inr (Or.inr (Or.inl (key 4 h)))))
  · exact Or.inr (Or.inr (Or.inr (Or.inr (Or.inr (Or.inl (key 5 h))))))
  · exact Or.inr (Or.inr (Or.inr (Or.inr (Or.inr (Or.inr (Or.inl (key 6 h)))))))
  · exact Or.inr (Or.inr (Or.inr (Or.inr (Or.inr (Or.inr (Or.inr (Or.inl (key 7 h))))))))
  · exact Or.inr (Or.inr (Or.inr (Or.inr (Or.inr (Or.inr (Or.inr (Or.inr h)))))))
def zmc (k : Int32) : Int32 := if k = 0 then 1 else 40
def zft (k r w t : Int32) : Int32 := if zw k 0 6 = 0 then -1 else if zw r 0 9 = 0 then -1 else if zw w 0 100 = 0 then -1 else if zw t 0 9 = 0 then -1 else 0
def zcl (g : Int32) : Int32 := if zw g 0 200 = 0 then -1 else 0
def zct (w : Int32) : Int32 := if w.toInt < 0 ∨ 7 < w.toInt then -1 else 0
theorem zz_no10 {x : Int32} (h1 : ¬ x < 1) (h2 : x ≤ 0) : False := by
  have a : ¬ x.toInt < (1 : Int32).toInt := fun h => h1 (Int32.lt_iff_toInt_lt.mpr h)
  have b : x.toInt ≤ (0 : Int32).toInt := Int32.le_iff_toInt_le.mp h2
  have e1 : (1 : Int32).toInt = 1 := by decide
  have e0 : (0 : Int32).toInt = 0 := by decide
  omega

abbrev cX0_init : ByteArray := prog_2_method_1_code
def yX0_init : MethodName := ⟨RX0, "<init>", "()V"⟩
abbrev cX3_init : ByteArray := prog_5_method_1_code
def yX3_init : MethodName := ⟨RX3, "<init>", "()V"⟩
abbrev cX7_init : ByteArray := prog_9_method_1_code
def yX7_init : MethodName := ⟨RX7, "<init>", "(IZ)V"⟩
abbrev cX4_init : ByteArray := prog_6_method_1_code
def yX4_init : MethodName := ⟨RX4, "<init>", "()V"⟩
abbrev cX8_init : ByteArray := prog_10_method_1_code
def yX8_init : MethodName := ⟨RX8, "<init>", "()V"⟩
abbrev cX6_init : ByteArray := prog_8_method_1_code
def yX6_init : MethodName := ⟨RX6, "<init>", "()V"⟩
def RJxa1e45 : String := "java/util/AbstractCollection"
abbrev cJxa1e45_init_da8c8 : ByteArray := prog_19_method_1_code
def yJxa1e45_init_da8c8 : MethodName := ⟨RJxa1e45, "<init>", "()V"⟩
def RJxc12de : String := "java/util/AbstractList"
abbrev cJxc12de_init_da8c8 : ByteArray := prog_20_method_1_code
def yJxc12de_init_da8c8 : MethodName := ⟨RJxc12de, "<init>", "()V"⟩
abbrev cJx4a65c_init_da8c8 : ByteArray := prog_21_method_2_code
def yJx4a65c_init_da8c8 : MethodName := ⟨RJx4a65c, "<init>", "()V"⟩
abbrev cX10_init : ByteArray := prog_1_method_1_code
def yX10_init : MethodName := ⟨RX10, "<init>", "()V"⟩
abbrev cX10_isWithin : ByteArray := prog_1_method_31_code
def yX10_isWithin : MethodName := ⟨RX10, "isWithin", "(III)Z"⟩
abbrev cX10_mostCorners : ByteArray := prog_1_method_33_code
def yX10_mostCorners : MethodName := ⟨RX10, "mostCorners", "(I)I"⟩
abbrev cX10_refuse : ByteArray := prog_1_method_35_code
def yX10_refuse : MethodName := ⟨RX10, "refuse", "(I)I"⟩
abbrev cX10_deny : ByteArray := prog_1_method_36_code
def yX10_deny : MethodName := ⟨RX10, "deny", "(I)Z"⟩
abbrev cJx4a65c_size_8abf5 : ByteArray := prog_21_method_8_code
def yJx4a65c_size_8abf5 : MethodName := ⟨RJx4a65c, "size", "()I"⟩
abbrev cX10_forgetUndone : ByteArray := prog_1_method_38_code
def yX10_forgetUndone : MethodName := ⟨RX10, "forgetUndone", "()V"⟩
abbrev cX10_seal : ByteArray := prog_1_method_37_code
def yX10_seal : MethodName := ⟨RX10, "seal", "()Z"⟩
abbrev cX8_isFull : ByteArray := prog_10_method_2_code
def yX8_isFull : MethodName := ⟨RX8, "isFull", "()Z"⟩
abbrev cX8_add : ByteArray := prog_10_method_3_code
def yX8_add : MethodName := ⟨RX8, "add", "(LScaleShop$Feature;)I"⟩
abbrev cX8_find : ByteArray := prog_10_method_5_code
def yX8_find : MethodName := ⟨RX8, "find", "(I)LScaleShop$Feature;"⟩
abbrev cX8_rowThere : ByteArray := prog_10_method_6_code
def yX8_rowThere : MethodName := ⟨RX8, "rowThere", "(I)LScaleShop$Row;"⟩
abbrev cX8_inState : ByteArray := prog_10_method_8_code
def yX8_inState : MethodName := ⟨RX8, "inState", "(I)I"⟩
abbrev cX8_torn : ByteArray := prog_10_method_9_code
def yX8_torn : MethodName := ⟨RX8, "torn", "()I"⟩
abbrev cX8_cornersThere : ByteArray := prog_10_method_10_code
def yX8_cornersThere : MethodName := ⟨RX8, "cornersThere", "()I"⟩
abbrev cX5_init : ByteArray := prog_7_method_1_code
def yX5_init : MethodName := ⟨RX5, "<init>", "(I)V"⟩
abbrev cX2_init : ByteArray := prog_4_method_1_code
def yX2_init : MethodName := ⟨RX2, "<init>", "(IIII)V"⟩
abbrev cX10_feature : ByteArray := prog_1_method_2_code
def yX10_feature : MethodName := ⟨RX10, "feature", "(IIII)I"⟩
abbrev cX10_corner : ByteArray := prog_1_method_3_code
def yX10_corner : MethodName := ⟨RX10, "corner", "(III)I"⟩
abbrev cX10_tear : ByteArray := prog_1_method_4_code
def yX10_tear : MethodName := ⟨RX10, "tear", "(I)Z"⟩
abbrev cX10_done : ByteArray := prog_1_method_5_code
def yX10_done : MethodName := ⟨RX10, "done", "(I)Z"⟩
abbrev cX10_plainer : ByteArray := prog_1_method_6_code
def yX10_plainer : MethodName := ⟨RX10, "plainer", "(II)I"⟩
abbrev cX10_smooth : ByteArray := prog_1_method_7_code
def yX10_smooth : MethodName := ⟨RX10, "smooth", "(I)Z"⟩
abbrev cX10_shift : ByteArray := prog_1_method_8_code
def yX10_shift : MethodName := ⟨RX10, "shift", "(IIIII)Z"⟩
abbrev cX10_grow : ByteArray := prog_1_method_9_code
def yX10_grow : MethodName := ⟨RX10, "grow", "(I)Z"⟩
abbrev cX10_square : ByteArray := prog_1_method_10_code
def yX10_square : MethodName := ⟨RX10, "square", "(II)Z"⟩
abbrev cX10_join : ByteArray := prog_1_method_11_code
def yX10_join : MethodName := ⟨RX10, "join", "(III)I"⟩
abbrev cX10_drop : ByteArray := prog_1_method_12_code
def yX10_drop : MethodName := ⟨RX10, "drop", "(I)Z"⟩
abbrev cX10_few : ByteArray := prog_1_method_13_code
def yX10_few : MethodName := ⟨RX10, "few", "(II)I"⟩
abbrev cX6_gather : ByteArray := prog_8_method_2_code
def yX6_gather : MethodName := ⟨RX6, "gather", "(LScaleShop$Sheet;)V"⟩
abbrev cX6_leaveOut : ByteArray := prog_8_method_5_code
def yX6_leaveOut : MethodName := ⟨RX6, "leaveOut", "(I)I"⟩
abbrev cX10_choose : ByteArray := prog_1_method_14_code
def yX10_choose : MethodName := ⟨RX10, "choose", "()I"⟩
abbrev cX10_run : ByteArray := prog_1_method_15_code
def yX10_run : MethodName := ⟨RX10, "run", "(I)I"⟩
abbrev cX10_undo : ByteArray := prog_1_method_16_code
def yX10_undo : MethodName := ⟨RX10, "undo", "()I"⟩
abbrev cX10_redo : ByteArray := prog_1_method_17_code
def yX10_redo : MethodName := ⟨RX10, "redo", "()I"⟩
abbrev cX10_meets : ByteArray := prog_1_method_18_code
def yX10_meets : MethodName := ⟨RX10, "meets", "(II)Z"⟩
abbrev cX10_inside : ByteArray := prog_1_method_19_code
def yX10_inside : MethodName := ⟨RX10, "inside", "(III)I"⟩
abbrev cX10_side : ByteArray := prog_1_method_20_code
def yX10_side : MethodName := ⟨RX10, "side", "(IIII)I"⟩
abbrev cX10_near : ByteArray := prog_1_method_21_code
def yX10_near : MethodName := ⟨RX10, "near", "(III)J"⟩
abbrev cX10_nextClash : ByteArray := prog_1_method_45_code
def yX10_nextClash : MethodName := ⟨RX10, "nextClash", "(II)I"⟩
abbrev cX10_clashes : ByteArray := prog_1_method_22_code
def yX10_clashes : MethodName := ⟨RX10, "clashes", "(I)I"⟩
abbrev cX10_clash : ByteArray := prog_1_method_23_code
def yX10_clash : MethodName := ⟨RX10, "clash", "(III)I"⟩
abbrev cX10_far : ByteArray := prog_1_method_24_code
def yX10_far : MethodName := ⟨RX10, "far", "(II)J"⟩
abbrev cX10_size : ByteArray := prog_1_method_25_code
def yX10_size : MethodName := ⟨RX10, "size", "(I)J"⟩
abbrev cX10_at : ByteArray := prog_1_method_26_code
def yX10_at : MethodName := ⟨RX10, "at", "(III)I"⟩
abbrev cX10_told : ByteArray := prog_1_method_27_code
def yX10_told : MethodName := ⟨RX10, "told", "(II)I"⟩
abbrev cX10_step : ByteArray := prog_1_method_28_code
def yX10_step : MethodName := ⟨RX10, "step", "(II)I"⟩
abbrev cX10_count : ByteArray := prog_1_method_29_code
def yX10_count : MethodName := ⟨RX10, "count", "(I)I"⟩
abbrev cX10_status : ByteArray := prog_1_method_30_code
def yX10_status : MethodName := ⟨RX10, "status", "()I"⟩
abbrev cX11_init : ByteArray := prog_13_method_1_code
def yX11_init : MethodName := ⟨RX11, "<init>", "()V"⟩
abbrev cX11_refuse : ByteArray := prog_13_method_2_code
def yX11_refuse : MethodName := ⟨RX11, "refuse", "(I)I"⟩
abbrev cX11_no : ByteArray := prog_13_method_3_code
def yX11_no : MethodName := ⟨RX11, "no", "(I)Z"⟩
abbrev cX11_isFeature : ByteArray := prog_13_method_4_code
def yX11_isFeature : MethodName := ⟨RX11, "isFeature", "(I)Z"⟩
abbrev cX11_is : ByteArray := prog_13_method_5_code
def yX11_is : MethodName := ⟨RX11, "is", "(I)Z"⟩
abbrev cX11_wrong : ByteArray := prog_13_method_55_code
def yX11_wrong : MethodName := ⟨RX11, "wrong", "(I)I"⟩
abbrev cX11_begin : ByteArray := prog_13_method_44_code
def yX11_begin : MethodName := ⟨RX11, "begin", "(IIIII)V"⟩
abbrev cX11_settle : ByteArray := prog_13_method_40_code
def yX11_settle : MethodName := ⟨RX11, "settle", "()V"⟩
abbrev cX11_write : ByteArray := prog_13_method_36_code
def yX11_write : MethodName := ⟨RX11, "write", "(I)V"⟩
abbrev cX11_keep : ByteArray := prog_13_method_37_code
def yX11_keep : MethodName := ⟨RX11, "keep", "(I)V"⟩
abbrev cX11_begins : ByteArray := prog_13_method_41_code
def yX11_begins : MethodName := ⟨RX11, "begins", "()V"⟩
abbrev cX11_tell : ByteArray := prog_13_method_58_code
def yX11_tell : MethodName := ⟨RX11, "tell", "(III)I"⟩
abbrev cX11_dropMarked : ByteArray := prog_13_method_77_code
def yX11_dropMarked : MethodName := ⟨RX11, "dropMarked", "(I)I"⟩
abbrev cX11_feature : ByteArray := prog_13_method_43_code
def yX11_feature : MethodName := ⟨RX11, "feature", "(IIII)I"⟩
abbrev cX11_corner : ByteArray := prog_13_method_45_code
def yX11_corner : MethodName := ⟨RX11, "corner", "(III)I"⟩
abbrev cX11_tear : ByteArray := prog_13_method_46_code
def yX11_tear : MethodName := ⟨RX11, "tear", "(I)Z"⟩
abbrev cX11_done : ByteArray := prog_13_method_47_code
def yX11_done : MethodName := ⟨RX11, "done", "(I)Z"⟩
abbrev cX11_plainer : ByteArray := prog_13_method_57_code
def yX11_plainer : MethodName := ⟨RX11, "plainer", "(II)I"⟩
abbrev cX11_smooth : ByteArray := prog_13_method_63_code
def yX11_smooth : MethodName := ⟨RX11, "smooth", "(I)Z"⟩
abbrev cX11_shift : ByteArray := prog_13_method_65_code
def yX11_shift : MethodName := ⟨RX11, "shift", "(IIIII)Z"⟩
abbrev cX11_grow : ByteArray := prog_13_method_66_code
def yX11_grow : MethodName := ⟨RX11, "grow", "(I)Z"⟩
abbrev cX11_square : ByteArray := prog_13_method_69_code
def yX11_square : MethodName := ⟨RX11, "square", "(II)Z"⟩
abbrev cX11_join : ByteArray := prog_13_method_74_code
def yX11_join : MethodName := ⟨RX11, "join", "(III)I"⟩
abbrev cX11_drop : ByteArray := prog_13_method_76_code
def yX11_drop : MethodName := ⟨RX11, "drop", "(I)Z"⟩
abbrev cX11_few : ByteArray := prog_13_method_79_code
def yX11_few : MethodName := ⟨RX11, "few", "(II)I"⟩
abbrev cX11_choose : ByteArray := prog_13_method_83_code
def yX11_choose : MethodName := ⟨RX11, "choose", "()I"⟩
abbrev cX11_run : ByteArray := prog_13_method_60_code
def yX11_run : MethodName := ⟨RX11, "run", "(I)I"⟩
abbrev cX11_undo : ByteArray := prog_13_method_84_code
def yX11_undo : MethodName := ⟨RX11, "undo", "()I"⟩
abbrev cX11_redo : ByteArray := prog_13_method_85_code
def yX11_redo : MethodName := ⟨RX11, "redo", "()I"⟩
abbrev cX11_meets : ByteArray := prog_13_method_86_code
def yX11_meets : MethodName := ⟨RX11, "meets", "(II)Z"⟩
abbrev cX11_inside : ByteArray := prog_13_method_87_code
def yX11_inside : MethodName := ⟨RX11, "inside", "(III)I"⟩
abbrev cX11_side : ByteArray := prog_13_method_88_code
def yX11_side : MethodName := ⟨RX11, "side", "(IIII)I"⟩
abbrev cX11_near : ByteArray := prog_13_method_89_code
def yX11_near : MethodName := ⟨RX11, "near", "(III)J"⟩
abbrev cX11_clashes : ByteArray := prog_13_method_91_code
def yX11_clashes : MethodName := ⟨RX11, "clashes", "(I)I"⟩
abbrev cX11_clash : ByteArray := prog_13_method_92_code
def yX11_clash : MethodName := ⟨RX11, "clash", "(III)I"⟩
abbrev cX11_far : ByteArray := prog_13_method_93_code
def yX11_far : MethodName := ⟨RX11, "far", "(II)J"⟩
abbrev cX11_size : ByteArray := prog_13_method_94_code
def yX11_size : MethodName := ⟨RX11, "size", "(I)J"⟩
abbrev cX11_at : ByteArray := prog_13_method_95_code
def yX11_at : MethodName := ⟨RX11, "at", "(III)I"⟩
abbrev cX11_told : ByteArray := prog_13_method_96_code
def yX11_told : MethodName := ⟨RX11, "told", "(II)I"⟩
abbrev cX11_step : ByteArray := prog_13_method_97_code
def yX11_step : MethodName := ⟨RX11, "step", "(II)I"⟩
abbrev cX11_count : ByteArray := prog_13_method_98_code
def yX11_count : MethodName := ⟨RX11, "count", "(I)I"⟩
abbrev cX11_status : ByteArray := prog_13_method_99_code
def yX11_status : MethodName := ⟨RX11, "status", "()I"⟩
abbrev cL_law : ByteArray := code
