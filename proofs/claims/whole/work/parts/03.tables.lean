/-! ===== TABLES: fields' kinds, classes, the words that are used, each by its place ===== -/
def z_ws : List Cond := lw_tbl.filter goodWord
theorem z_wt {w : Cond} (i : Nat) (h : tables_1[i]? = some w) (hg : goodWord w = true) : w ∈ z_ws := List.mem_filter.mpr ⟨List.mem_append_right _ (List.mem_of_getElem? h), hg⟩
theorem z_wp {w : Cond} (i : Nat) (h : (k2_sels lw_privs)[i]? = some w) (hg : goodWord w = true) : w ∈ z_ws := List.mem_filter.mpr ⟨List.mem_append_left _ (List.mem_of_getElem? h), hg⟩
theorem z_good : GoodIn lw_tbl z_ws := fun w h => ⟨(List.mem_filter.mp h).1, good_of_word (List.mem_filter.mp h).2⟩
theorem z_goods : GoodIn z_ws z_ws := fun w h => ⟨h, good_of_word (List.mem_filter.mp h).2⟩
def z_tab : Nat → List Nat
  | 0 => [22, 22, 22, 0, 0, 0]
  | 1 => [8, 26, 10, 10, 25, 0, 0, 0, 0, 1, 0, 0, 0, 0, 0, 0, 0, 0, 0]
  | 2 => [0, 0, 0, 0, 0, 0, 0, 0, 0, 22, 0]
  | 3 => [0, 0, 0, 0, 1, 0, 0, 0, 0, 24, 0, 0]
  | 4 => [0, 0, 0, 9, 3, 0, 1, 1]
  | 5 => [6, 6, 13, 13, 7, 0]
  | 6 => [0, 0, 0, 0, 0, 0, 0, 1, 1, 1, 0, 0, 0, 0]
  | 7 => [0, 5, 1, 0, 0, 0, 0, 0, 1, 0, 0, 0, 0, 0, 0, 0, 0, 0]
  | 8 => [8, 26, 0, 1, 1, 23, 0, 0, 0, 23, 0, 0, 0, 0, 0, 0]
  | 9 => [0, 0, 0, 0, 0, 0, 0, 23, 22, 23]
  | 10 => [24, 0]
  | 11 => [8, 26, 11, 4, 23]
  | _ => [0, 22, 22, 22, 22, 23, 22, 22, 22, 22, 22, 22, 22, 22, 22, 0, 22, 22, 0, 22, 22, 22, 22, 0, 22, 0, 0, 1, 1, 23, 0, 0, 0, 23, 23, 22, 0, 0, 0, 0, 0, 0, 0, 1, 0, 0, 0, 0, 0, 0, 22, 22, 22, 0, 0, 23, 22, 22, 22, 22, 22, 22, 22, 22, 22, 23, 23, 23, 22, 22, 0, 22, 22, 22, 22, 22, 22, 22, 23, 23, 22, 22, 22, 22, 22, 22, 22, 22, 22, 22, 22, 22, 22, 22, 0]
/-- a field's kind: 0 int, 1 boolean, else its target's kind and 2 -/
def z_fk (c k : Nat) : Nat := (z_tab c).getD k 0
def z_N : Nat → Nat
  | 0 => 6
  | 1 => 19
  | 2 => 11
  | 3 => 12
  | 4 => 8
  | 5 => 6
  | 6 => 14
  | 7 => 18
  | 8 => 16
  | 9 => 10
  | 10 => 2
  | 11 => 5
  | _ => 95
def z_R : Nat → String
  | 0 => RX0
  | 1 => RX1
  | 2 => RX2
  | 3 => RX3
  | 4 => RX4
  | 5 => RX5
  | 6 => RX6
  | 7 => RX7
  | 8 => RX8
  | 9 => RX9
  | 10 => RX10
  | 11 => RX11
  | _ => RX12
def z_T : Nat → u_T
  | 0 => TX0
  | 1 => TX1
  | 2 => TX2
  | 3 => TX3
  | 4 => TX4
  | 5 => TX5
  | 6 => TX6
  | 7 => TX7
  | 8 => TX8
  | 9 => TX9
  | 10 => TX10
  | 11 => TX11
  | _ => TX12
def z_ty : Nat → Nat → FieldType
  | 0 => tyX0
  | 1 => tyX1
  | 2 => tyX2
  | 3 => tyX3
  | 4 => tyX4
  | 5 => tyX5
  | 6 => tyX6
  | 7 => tyX7
  | 8 => tyX8
  | 9 => tyX9
  | 10 => tyX10
  | 11 => tyX11
  | _ => tyX12
/-- what is known of class c: its place, its words, its fields' types and names -/
def z_CB (c : Nat) : Prop := vwCl[c]? = some (z_R c, z_T c, z_N c) ∧ (∀ w ∈ u_ws (z_R c) (z_T c) (z_N c), w ∈ z_ws) ∧ (∀ k, k < z_N c → parseFieldDescriptor (z_T c k).2.2.1 = some (z_ty c k)) ∧ (∀ a, a < z_N c → ∀ b, b < z_N c → a ≠ b → (z_T c a).2.1 ≠ (z_T c b).2.1)
theorem z_uw0 : GoodIn tables_1 wsX00 := goodIn_r _ [724, 726, 728, 730, 732, 734] (by decide +kernel) (by decide +kernel)
theorem z_cb0 : z_CB 0 := ⟨rfl, fun w h => List.mem_filter.mpr ⟨List.mem_append_right _ (z_uw0 w h).1, List.all_eq_true.mp (show wsX00.all goodWord = true by decide +kernel) w h⟩, tyX0_ok, nmX0⟩
theorem z_uw1 : GoodIn tables_1 wsX10 := goodIn_r _ [450, 452, 454, 456, 458, 460, 462, 464, 466, 468, 470, 472, 474, 476, 478, 480, 482, 484, 486] (by decide +kernel) (by decide +kernel)
theorem z_cb1 : z_CB 1 := ⟨rfl, fun w h => List.mem_filter.mpr ⟨List.mem_append_right _ (z_uw1 w h).1, List.all_eq_true.mp (show wsX10.all goodWord = true by decide +kernel) w h⟩, tyX1_ok, nmX1⟩
theorem z_uw2 : GoodIn tables_1 wsX20 := goodIn_r _ [326, 328, 330, 332, 334, 336, 338, 340, 342, 344, 346] (by decide +kernel) (by decide +kernel)
theorem z_cb2 : z_CB 2 := ⟨rfl, fun w h => List.mem_filter.mpr ⟨List.mem_append_right _ (z_uw2 w h).1, List.all_eq_true.mp (show wsX20.all goodWord = true by decide +kernel) w h⟩, tyX2_ok, nmX2⟩
theorem z_uw3 : GoodIn tables_1 wsX30 := goodIn_r _ [70, 72, 74, 76, 78, 80, 82, 84, 86, 88, 90, 92] (by decide +kernel) (by decide +kernel)
theorem z_cb3 : z_CB 3 := ⟨rfl, fun w h => List.mem_filter.mpr ⟨List.mem_append_right _ (z_uw3 w h).1, List.all_eq_true.mp (show wsX30.all goodWord = true by decide +kernel) w h⟩, tyX3_ok, nmX3⟩
theorem z_uw4 : GoodIn tables_1 wsX40 := goodIn_r _ [140, 142, 144, 146, 148, 150, 152, 154] (by decide +kernel) (by decide +kernel)
theorem z_cb4 : z_CB 4 := ⟨rfl, fun w h => List.mem_filter.mpr ⟨List.mem_append_right _ (z_uw4 w h).1, List.all_eq_true.mp (show wsX40.all goodWord = true by decide +kernel) w h⟩, tyX4_ok, nmX4⟩
theorem z_uw5 : GoodIn tables_1 wsX50 := goodIn_r _ [168, 170, 172, 174, 176, 178] (by decide +kernel) (by decide +kernel)
theorem z_cb5 : z_CB 5 := ⟨rfl, fun w h => List.mem_filter.mpr ⟨List.mem_append_right _ (z_uw5 w h).1, List.all_eq_true.mp (show wsX50.all goodWord = true by decide +kernel) w h⟩, tyX5_ok, nmX5⟩
theorem z_uw6 : GoodIn tables_1 wsX60 := goodIn_r _ [1100, 1102, 1104, 1106, 1108, 1110, 1112, 1114, 1116, 1118, 1120, 1122, 1124, 1126] (by decide +kernel) (by decide +kernel)
theorem z_cb6 : z_CB 6 := ⟨rfl, fun w h => List.mem_filter.mpr ⟨List.mem_append_right _ (z_uw6 w h).1, List.all_eq_true.mp (show wsX60.all goodWord = true by decide +kernel) w h⟩, tyX6_ok, nmX6⟩
theorem z_uw7 : GoodIn tables_1 wsX70 := goodIn_r _ [386, 388, 390, 392, 394, 396, 398, 400, 402, 404, 406, 408, 410, 412, 414, 416, 418, 420] (by decide +kernel) (by decide +kernel)
theorem z_cb7 : z_CB 7 := ⟨rfl, fun w h => List.mem_filter.mpr ⟨List.mem_append_right _ (z_uw7 w h).1, List.all_eq_true.mp (show wsX70.all goodWord = true by decide +kernel) w h⟩, tyX7_ok, nmX7⟩
theorem z_uw8 : GoodIn tables_1 wsX80 := goodIn_r _ [258, 260, 262, 264, 266, 268, 270, 272, 274, 276, 278, 280, 282, 284, 286, 288] (by decide +kernel) (by decide +kernel)
theorem z_cb8 : z_CB 8 := ⟨rfl, fun w h => List.mem_filter.mpr ⟨List.mem_append_right _ (z_uw8 w h).1, List.all_eq_true.mp (show wsX80.all goodWord = true by decide +kernel) w h⟩, tyX8_ok, nmX8⟩
theorem z_uw9 : GoodIn tables_1 wsX90 := goodIn_r _ [209, 211, 213, 215, 217, 219, 221, 223, 225, 227] (by decide +kernel) (by decide +kernel)
theorem z_cb9 : z_CB 9 := ⟨rfl, fun w h => List.mem_filter.mpr ⟨List.mem_append_right _ (z_uw9 w h).1, List.all_eq_true.mp (show wsX90.all goodWord = true by decide +kernel) w h⟩, tyX9_ok, nmX9⟩
theorem z_uw10 : GoodIn tables_1 wsX100 := goodIn_r _ [109, 111] (by decide +kernel) (by decide +kernel)
theorem z_cb10 : z_CB 10 := ⟨rfl, fun w h => List.mem_filter.mpr ⟨List.mem_append_right _ (z_uw10 w h).1, List.all_eq_true.mp (show wsX100.all goodWord = true by decide +kernel) w h⟩, tyX10_ok, nmX10⟩
theorem z_uw11 : GoodIn tables_1 wsX110 := goodIn_r _ [494, 496, 498, 500, 502] (by decide +kernel) (by decide +kernel)
theorem z_cb11 : z_CB 11 := ⟨rfl, fun w h => List.mem_filter.mpr ⟨List.mem_append_right _ (z_uw11 w h).1, List.all_eq_true.mp (show wsX110.all goodWord = true by decide +kernel) w h⟩, tyX11_ok, nmX11⟩
theorem z_uw12 : GoodIn tables_1 wsX120 := goodIn_r _ [1350, 1352, 1354, 1356, 1358, 1360, 1362, 1364, 1366, 1368, 1370, 1372, 1374, 1376, 1378, 1380, 1382, 1384, 1386, 1388, 1390, 1392, 1394, 1396, 1398, 1400, 1402, 1404, 1406, 1408, 1410, 1412, 1414, 1416, 1418, 1420, 1422, 1424, 1426, 1428, 1430, 1432, 1434, 1436, 1438, 1440, 1442, 1444, 1446, 1448, 1450, 1452, 1454, 1456, 1458, 1460, 1462, 1464, 1466, 1468, 1470, 1472, 1474, 1476, 1478, 1480, 1482, 1484, 1486, 1488, 1490, 1492, 1494, 1496, 1498, 1500, 1502, 1504, 1506, 1508, 1510, 1512, 1514, 1516, 1518, 1520, 1522, 1524, 1526, 1528, 1530, 1532, 1534, 1536, 1538] (by decide +kernel) (by decide +kernel)
theorem z_cb12 : z_CB 12 := ⟨rfl, fun w h => List.mem_filter.mpr ⟨List.mem_append_right _ (z_uw12 w h).1, List.all_eq_true.mp (show wsX120.all goodWord = true by decide +kernel) w h⟩, tyX12_ok, nmX12⟩
theorem zw_0 : (initialized "TidewaterLaw") ∈ z_ws := z_wt 0 (by decide +kernel) rfl
theorem zw_1 : (initialized "Tidewater") ∈ z_ws := z_wt 1 (by decide +kernel) rfl
theorem zw_2 : (initialized "Tidewater$Network") ∈ z_ws := z_wt 2 (by decide +kernel) rfl
theorem zw_3 : (initialized "Tidewater$Lane") ∈ z_ws := z_wt 3 (by decide +kernel) rfl
theorem zw_4 : (initialized "Tidewater$Transit") ∈ z_ws := z_wt 4 (by decide +kernel) rfl
theorem zw_5 : (initialized "java/lang/Math") ∈ z_ws := z_wt 5 (by decide +kernel) rfl
theorem zw_6 : (initialized "Tidewater$Message") ∈ z_ws := z_wt 6 (by decide +kernel) rfl
theorem zw_7 : (initialized "Tidewater$Stream") ∈ z_ws := z_wt 7 (by decide +kernel) rfl
theorem zw_8 : (initialized "Tidewater$Server") ∈ z_ws := z_wt 8 (by decide +kernel) rfl
theorem zw_9 : (initialized "Tidewater$Client") ∈ z_ws := z_wt 9 (by decide +kernel) rfl
theorem zw_10 : (initialized "Tidewater$Route") ∈ z_ws := z_wt 10 (by decide +kernel) rfl
theorem zw_11 : (initialized "Tidewater$Growth") ∈ z_ws := z_wt 11 (by decide +kernel) rfl
theorem zw_12 : (initialized "TidewaterModel") ∈ z_ws := z_wt 12 (by decide +kernel) rfl
theorem zw_13 : (initialized "java/lang/Throwable") ∈ z_ws := z_wt 13 (by decide +kernel) rfl
theorem zw_14 : (initialized "java/lang/Exception") ∈ z_ws := z_wt 14 (by decide +kernel) rfl
theorem zw_15 : (initialized "java/lang/RuntimeException") ∈ z_ws := z_wt 15 (by decide +kernel) rfl
theorem zw_16 : (initialized "java/lang/IndexOutOfBoundsException") ∈ z_ws := z_wt 16 (by decide +kernel) rfl
theorem zw_17 : (initialized "java/lang/IllegalArgumentException") ∈ z_ws := z_wt 17 (by decide +kernel) rfl
theorem zw_18 : (initialized "Tidewater$Ack") ∈ z_ws := z_wt 18 (by decide +kernel) rfl
theorem zw_19 : (initialized "java/lang/IllegalStateException") ∈ z_ws := z_wt 19 (by decide +kernel) rfl
theorem zw_20 : (initialized "java/lang/System") ∈ z_ws := z_wt 20 (by decide +kernel) rfl
theorem zw_21 : (initialized "Tidewater$Packet") ∈ z_ws := z_wt 21 (by decide +kernel) rfl
theorem zw_22 : (classLink "TidewaterLaw" (8 : Nat) "Tidewater") ∈ z_ws := z_wt 22 (by decide +kernel) rfl
theorem zw_23 : (instantiable "Tidewater" (5 : Nat)) ∈ z_ws := z_wt 23 (by decide +kernel) rfl
theorem zw_24 : (methodLink "TidewaterLaw" (86 : Nat) ({ cls := "Tidewater", name := "<init>", desc := "()V" } : Jvm.MethodName)) ∈ z_ws := z_wt 24 (by decide +kernel) rfl
theorem zw_25 : (instanceMethod ({ cls := "Tidewater", name := "<init>", desc := "()V" } : Jvm.MethodName)) ∈ z_ws := z_wt 25 (by decide +kernel) rfl
theorem zw_26 : (code ({ cls := "Tidewater", name := "<init>", desc := "()V" } : Jvm.MethodName) prog_1_method_1_code (2 : Nat) (Option.none : Option FieldType)) ∈ z_ws := z_wt 26 (by decide +kernel) rfl
theorem zw_27 : (methodLink "Tidewater" (1 : Nat) ({ cls := "java/lang/Object", name := "<init>", desc := "()V" } : Jvm.MethodName)) ∈ z_ws := z_wt 27 (by decide +kernel) rfl
theorem zw_28 : (instanceMethod ({ cls := "java/lang/Object", name := "<init>", desc := "()V" } : Jvm.MethodName)) ∈ z_ws := z_wt 28 (by decide +kernel) rfl
theorem zw_29 : (code ({ cls := "java/lang/Object", name := "<init>", desc := "()V" } : Jvm.MethodName) object_method_1_code (1 : Nat) (Option.none : Option FieldType)) ∈ z_ws := z_wt 29 (by decide +kernel) rfl
theorem zw_30 : (classLink "Tidewater" (7 : Nat) "Tidewater$Network") ∈ z_ws := z_wt 30 (by decide +kernel) rfl
theorem zw_31 : (instantiable "Tidewater$Network" (6 : Nat)) ∈ z_ws := z_wt 31 (by decide +kernel) rfl
theorem zw_32 : (methodLinkNest "Tidewater" (9 : Nat) ({ cls := "Tidewater$Network", name := "<init>", desc := "()V" } : Jvm.MethodName) "Tidewater") ∈ z_ws := z_wt 32 (by decide +kernel) rfl
theorem zw_33 : (instanceMethod ({ cls := "Tidewater$Network", name := "<init>", desc := "()V" } : Jvm.MethodName)) ∈ z_ws := z_wt 33 (by decide +kernel) rfl
theorem zw_34 : (code ({ cls := "Tidewater$Network", name := "<init>", desc := "()V" } : Jvm.MethodName) prog_7_method_1_code (1 : Nat) (Option.none : Option FieldType)) ∈ z_ws := z_wt 34 (by decide +kernel) rfl
theorem zw_35 : (methodLink "Tidewater$Network" (3 : Nat) ({ cls := "java/lang/Object", name := "<init>", desc := "()V" } : Jvm.MethodName)) ∈ z_ws := z_wt 35 (by decide +kernel) rfl
theorem zw_36 : (classLink "Tidewater$Network" (9 : Nat) "Tidewater$Lane") ∈ z_ws := z_wt 36 (by decide +kernel) rfl
theorem zw_37 : (instantiable "Tidewater$Lane" (12 : Nat)) ∈ z_ws := z_wt 37 (by decide +kernel) rfl
theorem zw_38 : (methodLinkNest "Tidewater$Network" (11 : Nat) ({ cls := "Tidewater$Lane", name := "<init>", desc := "()V" } : Jvm.MethodName) "Tidewater") ∈ z_ws := z_wt 38 (by decide +kernel) rfl
theorem zw_39 : (instanceMethod ({ cls := "Tidewater$Lane", name := "<init>", desc := "()V" } : Jvm.MethodName)) ∈ z_ws := z_wt 39 (by decide +kernel) rfl
theorem zw_40 : (code ({ cls := "Tidewater$Lane", name := "<init>", desc := "()V" } : Jvm.MethodName) prog_5_method_1_code (1 : Nat) (Option.none : Option FieldType)) ∈ z_ws := z_wt 40 (by decide +kernel) rfl
theorem zw_41 : (methodLink "Tidewater$Lane" (3 : Nat) ({ cls := "java/lang/Object", name := "<init>", desc := "()V" } : Jvm.MethodName)) ∈ z_ws := z_wt 41 (by decide +kernel) rfl
theorem zw_42 : (classLink "Tidewater$Lane" (28 : Nat) "Tidewater$Message") ∈ z_ws := z_wt 42 (by decide +kernel) rfl
theorem zw_43 : (arrayOver (FieldType.object "Tidewater$Message")) ∈ z_ws := z_wt 43 (by decide +kernel) rfl
theorem zw_44 : (fieldLink "Tidewater$Lane" (9 : Nat) "Tidewater$Lane" "delay" "I") ∈ z_ws := z_wt 44 (by decide +kernel) rfl
theorem zw_45 : (fieldLink "Tidewater" (55 : Nat) "Tidewater$Lane" "delay" "I") ∈ z_ws := z_wt 45 (by decide +kernel) rfl
theorem zw_46 : (fieldLink "Tidewater$Network" (81 : Nat) "Tidewater$Lane" "delay" "I") ∈ z_ws := z_wt 46 (by decide +kernel) rfl
theorem zw_47 : (fieldLink "Tidewater$Lane" (15 : Nat) "Tidewater$Lane" "rate" "I") ∈ z_ws := z_wt 47 (by decide +kernel) rfl
theorem zw_48 : (fieldLink "Tidewater" (61 : Nat) "Tidewater$Lane" "rate" "I") ∈ z_ws := z_wt 48 (by decide +kernel) rfl
theorem zw_49 : (fieldLink "Tidewater$Network" (94 : Nat) "Tidewater$Lane" "rate" "I") ∈ z_ws := z_wt 49 (by decide +kernel) rfl
theorem zw_50 : (fieldLink "Tidewater$Lane" (18 : Nat) "Tidewater$Lane" "room" "I") ∈ z_ws := z_wt 50 (by decide +kernel) rfl
theorem zw_51 : (fieldLink "Tidewater" (64 : Nat) "Tidewater$Lane" "room" "I") ∈ z_ws := z_wt 51 (by decide +kernel) rfl
theorem zw_52 : (fieldLink "Tidewater$Lane" (21 : Nat) "Tidewater$Lane" "mark" "I") ∈ z_ws := z_wt 52 (by decide +kernel) rfl
theorem zw_53 : (fieldLink "Tidewater" (67 : Nat) "Tidewater$Lane" "mark" "I") ∈ z_ws := z_wt 53 (by decide +kernel) rfl
theorem zw_54 : (fieldLink "Tidewater$Network" (59 : Nat) "Tidewater$Lane" "mark" "I") ∈ z_ws := z_wt 54 (by decide +kernel) rfl
theorem zw_55 : (fieldLink "Tidewater$Lane" (24 : Nat) "Tidewater$Lane" "isUp" "Z") ∈ z_ws := z_wt 55 (by decide +kernel) rfl
theorem zw_56 : (fieldLink "Tidewater" (70 : Nat) "Tidewater$Lane" "isUp" "Z") ∈ z_ws := z_wt 56 (by decide +kernel) rfl
theorem zw_57 : (fieldLink "Tidewater$Lane" (34 : Nat) "Tidewater$Lane" "loseToServer" "I") ∈ z_ws := z_wt 57 (by decide +kernel) rfl
theorem zw_58 : (fieldLink "Tidewater" (74 : Nat) "Tidewater$Lane" "loseToServer" "I") ∈ z_ws := z_wt 58 (by decide +kernel) rfl
theorem zw_59 : (fieldLink "Tidewater$Lane" (41 : Nat) "Tidewater$Lane" "loseToClient" "I") ∈ z_ws := z_wt 59 (by decide +kernel) rfl
theorem zw_60 : (fieldLink "Tidewater" (77 : Nat) "Tidewater$Lane" "loseToClient" "I") ∈ z_ws := z_wt 60 (by decide +kernel) rfl
theorem zw_61 : (fieldLink "Tidewater" (80 : Nat) "Tidewater$Lane" "lateMany" "I") ∈ z_ws := z_wt 61 (by decide +kernel) rfl
theorem zw_62 : (fieldLink "Tidewater$Lane" (50 : Nat) "Tidewater$Lane" "lateMany" "I") ∈ z_ws := z_wt 62 (by decide +kernel) rfl
theorem zw_63 : (fieldLink "Tidewater" (83 : Nat) "Tidewater$Lane" "lateBy" "I") ∈ z_ws := z_wt 63 (by decide +kernel) rfl
theorem zw_64 : (fieldLink "Tidewater$Lane" (53 : Nat) "Tidewater$Lane" "lateBy" "I") ∈ z_ws := z_wt 64 (by decide +kernel) rfl
theorem zw_65 : (fieldLink "Tidewater$Lane" (30 : Nat) "Tidewater$Lane" "queue" "[LTidewater$Message;") ∈ z_ws := z_wt 65 (by decide +kernel) rfl
theorem zw_66 : (fieldLink "Tidewater$Lane" (47 : Nat) "Tidewater$Lane" "head" "I") ∈ z_ws := z_wt 66 (by decide +kernel) rfl
theorem zw_67 : (fieldLink "Tidewater$Network" (56 : Nat) "Tidewater$Lane" "length" "I") ∈ z_ws := z_wt 67 (by decide +kernel) rfl
theorem zw_68 : (fieldLink "Tidewater$Lane" (44 : Nat) "Tidewater$Lane" "length" "I") ∈ z_ws := z_wt 68 (by decide +kernel) rfl
theorem zw_69 : (fieldLink "Tidewater" (201 : Nat) "Tidewater$Lane" "length" "I") ∈ z_ws := z_wt 69 (by decide +kernel) rfl
theorem zw_95 : (classLink "Tidewater$Network" (21 : Nat) "Tidewater$Transit") ∈ z_ws := z_wt 95 (by decide +kernel) rfl
theorem zw_96 : (instantiable "Tidewater$Transit" (2 : Nat)) ∈ z_ws := z_wt 96 (by decide +kernel) rfl
theorem zw_97 : (methodLink "Tidewater$Network" (23 : Nat) ({ cls := "Tidewater$Transit", name := "<init>", desc := "(I)V" } : Jvm.MethodName)) ∈ z_ws := z_wt 97 (by decide +kernel) rfl
theorem zw_98 : (instanceMethod ({ cls := "Tidewater$Transit", name := "<init>", desc := "(I)V" } : Jvm.MethodName)) ∈ z_ws := z_wt 98 (by decide +kernel) rfl
theorem zw_99 : (code ({ cls := "Tidewater$Transit", name := "<init>", desc := "(I)V" } : Jvm.MethodName) prog_12_method_1_code (2 : Nat) (Option.none : Option FieldType)) ∈ z_ws := z_wt 99 (by decide +kernel) rfl
theorem zw_100 : (methodLink "Tidewater$Transit" (1 : Nat) ({ cls := "java/lang/Object", name := "<init>", desc := "()V" } : Jvm.MethodName)) ∈ z_ws := z_wt 100 (by decide +kernel) rfl
theorem zw_101 : (methodLink "Tidewater$Transit" (7 : Nat) ({ cls := "java/lang/Math", name := "max", desc := "(II)I" } : Jvm.MethodName)) ∈ z_ws := z_wt 101 (by decide +kernel) rfl
theorem zw_102 : (static ({ cls := "java/lang/Math", name := "max", desc := "(II)I" } : Jvm.MethodName)) ∈ z_ws := z_wt 102 (by decide +kernel) rfl
theorem zw_103 : (code ({ cls := "java/lang/Math", name := "max", desc := "(II)I" } : Jvm.MethodName) prog_19_method_65_code (2 : Nat) (Option.some FieldType.int)) ∈ z_ws := z_wt 103 (by decide +kernel) rfl
theorem zw_104 : (classLink "Tidewater$Transit" (13 : Nat) "Tidewater$Message") ∈ z_ws := z_wt 104 (by decide +kernel) rfl
theorem zw_105 : (fieldLink "Tidewater$Transit" (15 : Nat) "Tidewater$Transit" "messages" "[LTidewater$Message;") ∈ z_ws := z_wt 105 (by decide +kernel) rfl
theorem zw_106 : (fieldLink "Tidewater$Transit" (21 : Nat) "Tidewater$Transit" "length" "I") ∈ z_ws := z_wt 106 (by decide +kernel) rfl
theorem zw_107 : (fieldLink "Tidewater$Server" (82 : Nat) "Tidewater$Transit" "length" "I") ∈ z_ws := z_wt 107 (by decide +kernel) rfl
theorem zw_108 : (fieldLink "Tidewater$Client" (108 : Nat) "Tidewater$Transit" "length" "I") ∈ z_ws := z_wt 108 (by decide +kernel) rfl
theorem zw_114 : (classLink "Tidewater$Network" (33 : Nat) "Tidewater$Message") ∈ z_ws := z_wt 114 (by decide +kernel) rfl
theorem zw_115 : (instantiable "Tidewater$Message" (8 : Nat)) ∈ z_ws := z_wt 115 (by decide +kernel) rfl
theorem zw_116 : (methodLink "Tidewater$Network" (35 : Nat) ({ cls := "Tidewater$Message", name := "<init>", desc := "(I)V" } : Jvm.MethodName)) ∈ z_ws := z_wt 116 (by decide +kernel) rfl
theorem zw_117 : (instanceMethod ({ cls := "Tidewater$Message", name := "<init>", desc := "(I)V" } : Jvm.MethodName)) ∈ z_ws := z_wt 117 (by decide +kernel) rfl
theorem zw_118 : (code ({ cls := "Tidewater$Message", name := "<init>", desc := "(I)V" } : Jvm.MethodName) prog_6_method_1_code (2 : Nat) (Option.none : Option FieldType)) ∈ z_ws := z_wt 118 (by decide +kernel) rfl
theorem zw_119 : (methodLink "Tidewater$Message" (3 : Nat) ({ cls := "java/lang/Object", name := "<init>", desc := "()V" } : Jvm.MethodName)) ∈ z_ws := z_wt 119 (by decide +kernel) rfl
theorem zw_120 : (fieldLink "Tidewater$Message" (15 : Nat) "Tidewater$Message" "kind" "I") ∈ z_ws := z_wt 120 (by decide +kernel) rfl
theorem zw_121 : (fieldLink "Tidewater$Server" (109 : Nat) "Tidewater$Message" "kind" "I") ∈ z_ws := z_wt 121 (by decide +kernel) rfl
theorem zw_122 : (fieldLink "Tidewater$Network" (101 : Nat) "Tidewater$Message" "kind" "I") ∈ z_ws := z_wt 122 (by decide +kernel) rfl
theorem zw_123 : (fieldLink "Tidewater$Client" (121 : Nat) "Tidewater$Message" "kind" "I") ∈ z_ws := z_wt 123 (by decide +kernel) rfl
theorem zw_124 : (fieldLink "Tidewater$Network" (44 : Nat) "Tidewater$Message" "path" "I") ∈ z_ws := z_wt 124 (by decide +kernel) rfl
theorem zw_125 : (fieldLink "Tidewater$Server" (115 : Nat) "Tidewater$Message" "path" "I") ∈ z_ws := z_wt 125 (by decide +kernel) rfl
theorem zw_126 : (fieldLink "Tidewater$Client" (124 : Nat) "Tidewater$Message" "path" "I") ∈ z_ws := z_wt 126 (by decide +kernel) rfl
theorem zw_127 : (fieldLink "Tidewater$Transit" (25 : Nat) "Tidewater$Message" "due" "I") ∈ z_ws := z_wt 127 (by decide +kernel) rfl
theorem zw_128 : (fieldLink "Tidewater$Network" (52 : Nat) "Tidewater$Message" "data" "LTidewater$Packet;") ∈ z_ws := z_wt 128 (by decide +kernel) rfl
theorem zw_129 : (fieldLink "Tidewater$Server" (98 : Nat) "Tidewater$Message" "data" "LTidewater$Packet;") ∈ z_ws := z_wt 129 (by decide +kernel) rfl
theorem zw_130 : (fieldLink "Tidewater$Client" (356 : Nat) "Tidewater$Message" "data" "LTidewater$Packet;") ∈ z_ws := z_wt 130 (by decide +kernel) rfl
theorem zw_131 : (fieldLink "Tidewater$Client" (141 : Nat) "Tidewater$Message" "ack" "LTidewater$Ack;") ∈ z_ws := z_wt 131 (by decide +kernel) rfl
theorem zw_132 : (fieldLink "Tidewater$Server" (188 : Nat) "Tidewater$Message" "ack" "LTidewater$Ack;") ∈ z_ws := z_wt 132 (by decide +kernel) rfl
theorem zw_133 : (fieldLink "Tidewater$Message" (9 : Nat) "Tidewater$Message" "ticket" "I") ∈ z_ws := z_wt 133 (by decide +kernel) rfl
theorem zw_134 : (fieldLink "Tidewater$Client" (73 : Nat) "Tidewater$Message" "ticket" "I") ∈ z_ws := z_wt 134 (by decide +kernel) rfl
theorem zw_135 : (fieldLink "Tidewater$Server" (134 : Nat) "Tidewater$Message" "ticket" "I") ∈ z_ws := z_wt 135 (by decide +kernel) rfl
theorem zw_136 : (fieldLink "Tidewater$Client" (78 : Nat) "Tidewater$Message" "hasCookie" "Z") ∈ z_ws := z_wt 136 (by decide +kernel) rfl
theorem zw_137 : (fieldLink "Tidewater$Server" (131 : Nat) "Tidewater$Message" "hasCookie" "Z") ∈ z_ws := z_wt 137 (by decide +kernel) rfl
theorem zw_138 : (fieldLink "Tidewater$Server" (141 : Nat) "Tidewater$Message" "takesEarly" "Z") ∈ z_ws := z_wt 138 (by decide +kernel) rfl
theorem zw_139 : (fieldLink "Tidewater$Client" (134 : Nat) "Tidewater$Message" "takesEarly" "Z") ∈ z_ws := z_wt 139 (by decide +kernel) rfl
theorem zw_157 : (fieldLink "Tidewater$Network" (12 : Nat) "Tidewater$Network" "lane0" "LTidewater$Lane;") ∈ z_ws := z_wt 157 (by decide +kernel) rfl
theorem zw_158 : (fieldLink "Tidewater$Network" (18 : Nat) "Tidewater$Network" "lane1" "LTidewater$Lane;") ∈ z_ws := z_wt 158 (by decide +kernel) rfl
theorem zw_159 : (fieldLink "Tidewater$Network" (26 : Nat) "Tidewater$Network" "toServer" "LTidewater$Transit;") ∈ z_ws := z_wt 159 (by decide +kernel) rfl
theorem zw_160 : (fieldLink "Tidewater$Server" (76 : Nat) "Tidewater$Network" "toServer" "LTidewater$Transit;") ∈ z_ws := z_wt 160 (by decide +kernel) rfl
theorem zw_161 : (fieldLink "Tidewater$Network" (30 : Nat) "Tidewater$Network" "toClient" "LTidewater$Transit;") ∈ z_ws := z_wt 161 (by decide +kernel) rfl
theorem zw_162 : (fieldLink "Tidewater$Client" (104 : Nat) "Tidewater$Network" "toClient" "LTidewater$Transit;") ∈ z_ws := z_wt 162 (by decide +kernel) rfl
theorem zw_163 : (fieldLink "Tidewater$Network" (36 : Nat) "Tidewater$Network" "foreigner" "LTidewater$Message;") ∈ z_ws := z_wt 163 (by decide +kernel) rfl
theorem zw_164 : (fieldLink "Tidewater$Network" (78 : Nat) "Tidewater$Network" "now" "I") ∈ z_ws := z_wt 164 (by decide +kernel) rfl
theorem zw_165 : (fieldLink "Tidewater$Server" (87 : Nat) "Tidewater$Network" "now" "I") ∈ z_ws := z_wt 165 (by decide +kernel) rfl
theorem zw_166 : (fieldLink "Tidewater$Client" (62 : Nat) "Tidewater$Network" "now" "I") ∈ z_ws := z_wt 166 (by decide +kernel) rfl
theorem zw_167 : (fieldLink "Tidewater" (155 : Nat) "Tidewater$Network" "now" "I") ∈ z_ws := z_wt 167 (by decide +kernel) rfl
theorem zw_181 : (classLink "Tidewater" (16 : Nat) "Tidewater$Stream") ∈ z_ws := z_wt 181 (by decide +kernel) rfl
theorem zw_182 : (arrayOver (FieldType.object "Tidewater$Stream")) ∈ z_ws := z_wt 182 (by decide +kernel) rfl
theorem zw_183 : (instantiable "Tidewater$Stream" (10 : Nat)) ∈ z_ws := z_wt 183 (by decide +kernel) rfl
theorem zw_184 : (methodLinkNest "Tidewater" (22 : Nat) ({ cls := "Tidewater$Stream", name := "<init>", desc := "()V" } : Jvm.MethodName) "Tidewater") ∈ z_ws := z_wt 184 (by decide +kernel) rfl
theorem zw_185 : (instanceMethod ({ cls := "Tidewater$Stream", name := "<init>", desc := "()V" } : Jvm.MethodName)) ∈ z_ws := z_wt 185 (by decide +kernel) rfl
theorem zw_186 : (code ({ cls := "Tidewater$Stream", name := "<init>", desc := "()V" } : Jvm.MethodName) prog_11_method_1_code (1 : Nat) (Option.none : Option FieldType)) ∈ z_ws := z_wt 186 (by decide +kernel) rfl
theorem zw_187 : (methodLink "Tidewater$Stream" (3 : Nat) ({ cls := "java/lang/Object", name := "<init>", desc := "()V" } : Jvm.MethodName)) ∈ z_ws := z_wt 187 (by decide +kernel) rfl
theorem zw_188 : (fieldLink "Tidewater$Stream" (33 : Nat) "Tidewater$Stream" "written" "I") ∈ z_ws := z_wt 188 (by decide +kernel) rfl
theorem zw_189 : (fieldLink "Tidewater" (113 : Nat) "Tidewater$Stream" "written" "I") ∈ z_ws := z_wt 189 (by decide +kernel) rfl
theorem zw_190 : (fieldLink "Tidewater$Stream" (26 : Nat) "Tidewater$Stream" "sent" "I") ∈ z_ws := z_wt 190 (by decide +kernel) rfl
theorem zw_191 : (fieldLink "Tidewater" (204 : Nat) "Tidewater$Stream" "sent" "I") ∈ z_ws := z_wt 191 (by decide +kernel) rfl
theorem zw_192 : (fieldLink "Tidewater$Client" (337 : Nat) "Tidewater$Stream" "sent" "I") ∈ z_ws := z_wt 192 (by decide +kernel) rfl
theorem zw_193 : (fieldLink "Tidewater$Stream" (48 : Nat) "Tidewater$Stream" "acknowledged" "I") ∈ z_ws := z_wt 193 (by decide +kernel) rfl
theorem zw_194 : (fieldLink "Tidewater" (207 : Nat) "Tidewater$Stream" "acknowledged" "I") ∈ z_ws := z_wt 194 (by decide +kernel) rfl
theorem zw_195 : (fieldLink "Tidewater$Stream" (45 : Nat) "Tidewater$Stream" "lost" "I") ∈ z_ws := z_wt 195 (by decide +kernel) rfl
theorem zw_196 : (fieldLink "Tidewater" (210 : Nat) "Tidewater$Stream" "lost" "I") ∈ z_ws := z_wt 196 (by decide +kernel) rfl
theorem zw_197 : (fieldLink "Tidewater$Client" (327 : Nat) "Tidewater$Stream" "lost" "I") ∈ z_ws := z_wt 197 (by decide +kernel) rfl
theorem zw_198 : (fieldLink "Tidewater$Stream" (9 : Nat) "Tidewater$Stream" "credit" "I") ∈ z_ws := z_wt 198 (by decide +kernel) rfl
theorem zw_199 : (fieldLink "Tidewater$Client" (272 : Nat) "Tidewater$Stream" "credit" "I") ∈ z_ws := z_wt 199 (by decide +kernel) rfl
theorem zw_200 : (fieldLink "Tidewater" (213 : Nat) "Tidewater$Stream" "credit" "I") ∈ z_ws := z_wt 200 (by decide +kernel) rfl
theorem zw_201 : (fieldLink "Tidewater$Server" (42 : Nat) "Tidewater$Stream" "gotInOrder" "I") ∈ z_ws := z_wt 201 (by decide +kernel) rfl
theorem zw_202 : (fieldLink "Tidewater$Stream" (55 : Nat) "Tidewater$Stream" "gotInOrder" "I") ∈ z_ws := z_wt 202 (by decide +kernel) rfl
theorem zw_203 : (fieldLink "Tidewater" (216 : Nat) "Tidewater$Stream" "gotInOrder" "I") ∈ z_ws := z_wt 203 (by decide +kernel) rfl
theorem zw_204 : (fieldLink "Tidewater$Server" (47 : Nat) "Tidewater$Stream" "consumed" "I") ∈ z_ws := z_wt 204 (by decide +kernel) rfl
theorem zw_205 : (fieldLink "Tidewater" (219 : Nat) "Tidewater$Stream" "consumed" "I") ∈ z_ws := z_wt 205 (by decide +kernel) rfl
theorem zw_206 : (fieldLink "Tidewater$Stream" (15 : Nat) "Tidewater$Stream" "isAcknowledged" "[Z") ∈ z_ws := z_wt 206 (by decide +kernel) rfl
theorem zw_207 : (fieldLink "Tidewater$Stream" (19 : Nat) "Tidewater$Stream" "flights" "[I") ∈ z_ws := z_wt 207 (by decide +kernel) rfl
theorem zw_208 : (fieldLink "Tidewater$Stream" (23 : Nat) "Tidewater$Stream" "isGot" "[Z") ∈ z_ws := z_wt 208 (by decide +kernel) rfl
theorem zw_230 : (arrayClass FieldType.boolean) ∈ z_ws := z_wt 230 (by decide +kernel) rfl
theorem zw_231 : (arrayClass FieldType.int) ∈ z_ws := z_wt 231 (by decide +kernel) rfl
theorem zw_232 : (classLink "Tidewater" (23 : Nat) "Tidewater$Server") ∈ z_ws := z_wt 232 (by decide +kernel) rfl
theorem zw_233 : (instantiable "Tidewater$Server" (16 : Nat)) ∈ z_ws := z_wt 233 (by decide +kernel) rfl
theorem zw_234 : (methodLink "Tidewater" (25 : Nat) ({ cls := "Tidewater$Server", name := "<init>", desc := "(LTidewater$Network;[LTidewater$Stream;)V" } : Jvm.MethodName)) ∈ z_ws := z_wt 234 (by decide +kernel) rfl
theorem zw_235 : (instanceMethod ({ cls := "Tidewater$Server", name := "<init>", desc := "(LTidewater$Network;[LTidewater$Stream;)V" } : Jvm.MethodName)) ∈ z_ws := z_wt 235 (by decide +kernel) rfl
theorem zw_236 : (code ({ cls := "Tidewater$Server", name := "<init>", desc := "(LTidewater$Network;[LTidewater$Stream;)V" } : Jvm.MethodName) prog_10_method_1_code (3 : Nat) (Option.none : Option FieldType)) ∈ z_ws := z_wt 236 (by decide +kernel) rfl
theorem zw_237 : (methodLink "Tidewater$Server" (3 : Nat) ({ cls := "java/lang/Object", name := "<init>", desc := "()V" } : Jvm.MethodName)) ∈ z_ws := z_wt 237 (by decide +kernel) rfl
theorem zw_238 : (fieldLink "Tidewater$Server" (34 : Nat) "Tidewater$Server" "network" "LTidewater$Network;") ∈ z_ws := z_wt 238 (by decide +kernel) rfl
theorem zw_239 : (fieldLink "Tidewater$Server" (38 : Nat) "Tidewater$Server" "streams" "[LTidewater$Stream;") ∈ z_ws := z_wt 239 (by decide +kernel) rfl
theorem zw_240 : (fieldLink "Tidewater$Server" (9 : Nat) "Tidewater$Server" "state" "I") ∈ z_ws := z_wt 240 (by decide +kernel) rfl
theorem zw_241 : (fieldLink "Tidewater" (174 : Nat) "Tidewater$Server" "state" "I") ∈ z_ws := z_wt 241 (by decide +kernel) rfl
theorem zw_242 : (fieldLink "Tidewater$Server" (128 : Nat) "Tidewater$Server" "asksCookies" "Z") ∈ z_ws := z_wt 242 (by decide +kernel) rfl
theorem zw_243 : (fieldLink "Tidewater" (90 : Nat) "Tidewater$Server" "asksCookies" "Z") ∈ z_ws := z_wt 243 (by decide +kernel) rfl
theorem zw_244 : (fieldLink "Tidewater$Server" (62 : Nat) "Tidewater$Server" "takesEarly" "Z") ∈ z_ws := z_wt 244 (by decide +kernel) rfl
theorem zw_245 : (fieldLink "Tidewater$Server" (15 : Nat) "Tidewater$Server" "isUsed" "[Z") ∈ z_ws := z_wt 245 (by decide +kernel) rfl
theorem zw_246 : (fieldLink "Tidewater$Server" (177 : Nat) "Tidewater$Server" "key" "I") ∈ z_ws := z_wt 246 (by decide +kernel) rfl
theorem zw_247 : (fieldLink "Tidewater" (175 : Nat) "Tidewater$Server" "key" "I") ∈ z_ws := z_wt 247 (by decide +kernel) rfl
theorem zw_248 : (fieldLink "Tidewater$Server" (19 : Nat) "Tidewater$Server" "keyBefore" "I") ∈ z_ws := z_wt 248 (by decide +kernel) rfl
theorem zw_249 : (fieldLink "Tidewater$Server" (178 : Nat) "Tidewater$Server" "keyBeforeEnds" "I") ∈ z_ws := z_wt 249 (by decide +kernel) rfl
theorem zw_250 : (fieldLink "Tidewater$Server" (22 : Nat) "Tidewater$Server" "isTaken" "[Z") ∈ z_ws := z_wt 250 (by decide +kernel) rfl
theorem zw_251 : (fieldLink "Tidewater$Server" (25 : Nat) "Tidewater$Server" "greatestTaken" "I") ∈ z_ws := z_wt 251 (by decide +kernel) rfl
theorem zw_252 : (fieldLink "Tidewater$Server" (70 : Nat) "Tidewater$Server" "markedTaken" "I") ∈ z_ws := z_wt 252 (by decide +kernel) rfl
theorem zw_253 : (fieldLink "Tidewater$Server" (73 : Nat) "Tidewater$Server" "takenSinceAck" "I") ∈ z_ws := z_wt 253 (by decide +kernel) rfl
theorem zw_254 : (fieldLink "Tidewater$Server" (28 : Nat) "Tidewater$Server" "ackDue" "I") ∈ z_ws := z_wt 254 (by decide +kernel) rfl
theorem zw_255 : (fieldLink "Tidewater$Server" (31 : Nat) "Tidewater$Server" "lastPath" "I") ∈ z_ws := z_wt 255 (by decide +kernel) rfl
theorem zw_256 : (fieldLink "Tidewater$Server" (181 : Nat) "Tidewater$Server" "acksPut" "I") ∈ z_ws := z_wt 256 (by decide +kernel) rfl
theorem zw_257 : (fieldLink "Tidewater" (275 : Nat) "Tidewater$Server" "acksPut" "I") ∈ z_ws := z_wt 257 (by decide +kernel) rfl
theorem zw_291 : (classLink "Tidewater" (32 : Nat) "Tidewater$Client") ∈ z_ws := z_wt 291 (by decide +kernel) rfl
theorem zw_292 : (instantiable "Tidewater$Client" (19 : Nat)) ∈ z_ws := z_wt 292 (by decide +kernel) rfl
theorem zw_293 : (methodLink "Tidewater" (34 : Nat) ({ cls := "Tidewater$Client", name := "<init>", desc := "(LTidewater$Network;[LTidewater$Stream;)V" } : Jvm.MethodName)) ∈ z_ws := z_wt 293 (by decide +kernel) rfl
theorem zw_294 : (instanceMethod ({ cls := "Tidewater$Client", name := "<init>", desc := "(LTidewater$Network;[LTidewater$Stream;)V" } : Jvm.MethodName)) ∈ z_ws := z_wt 294 (by decide +kernel) rfl
theorem zw_295 : (code ({ cls := "Tidewater$Client", name := "<init>", desc := "(LTidewater$Network;[LTidewater$Stream;)V" } : Jvm.MethodName) prog_3_method_1_code (3 : Nat) (Option.none : Option FieldType)) ∈ z_ws := z_wt 295 (by decide +kernel) rfl
theorem zw_296 : (methodLink "Tidewater$Client" (3 : Nat) ({ cls := "java/lang/Object", name := "<init>", desc := "()V" } : Jvm.MethodName)) ∈ z_ws := z_wt 296 (by decide +kernel) rfl
theorem zw_297 : (classLink "Tidewater$Client" (9 : Nat) "Tidewater$Route") ∈ z_ws := z_wt 297 (by decide +kernel) rfl
theorem zw_298 : (instantiable "Tidewater$Route" (18 : Nat)) ∈ z_ws := z_wt 298 (by decide +kernel) rfl
theorem zw_299 : (methodLink "Tidewater$Client" (11 : Nat) ({ cls := "Tidewater$Route", name := "<init>", desc := "(I)V" } : Jvm.MethodName)) ∈ z_ws := z_wt 299 (by decide +kernel) rfl
theorem zw_300 : (instanceMethod ({ cls := "Tidewater$Route", name := "<init>", desc := "(I)V" } : Jvm.MethodName)) ∈ z_ws := z_wt 300 (by decide +kernel) rfl
theorem zw_301 : (code ({ cls := "Tidewater$Route", name := "<init>", desc := "(I)V" } : Jvm.MethodName) prog_9_method_1_code (2 : Nat) (Option.none : Option FieldType)) ∈ z_ws := z_wt 301 (by decide +kernel) rfl
theorem zw_302 : (methodLink "Tidewater$Route" (3 : Nat) ({ cls := "java/lang/Object", name := "<init>", desc := "()V" } : Jvm.MethodName)) ∈ z_ws := z_wt 302 (by decide +kernel) rfl
theorem zw_303 : (classLink "Tidewater$Route" (9 : Nat) "Tidewater$Growth") ∈ z_ws := z_wt 303 (by decide +kernel) rfl
theorem zw_304 : (instantiable "Tidewater$Growth" (11 : Nat)) ∈ z_ws := z_wt 304 (by decide +kernel) rfl
theorem zw_305 : (methodLinkNest "Tidewater$Route" (11 : Nat) ({ cls := "Tidewater$Growth", name := "<init>", desc := "()V" } : Jvm.MethodName) "Tidewater") ∈ z_ws := z_wt 305 (by decide +kernel) rfl
theorem zw_306 : (instanceMethod ({ cls := "Tidewater$Growth", name := "<init>", desc := "()V" } : Jvm.MethodName)) ∈ z_ws := z_wt 306 (by decide +kernel) rfl
theorem zw_307 : (code ({ cls := "Tidewater$Growth", name := "<init>", desc := "()V" } : Jvm.MethodName) prog_4_method_1_code (1 : Nat) (Option.none : Option FieldType)) ∈ z_ws := z_wt 307 (by decide +kernel) rfl
theorem zw_308 : (methodLink "Tidewater$Growth" (3 : Nat) ({ cls := "java/lang/Object", name := "<init>", desc := "()V" } : Jvm.MethodName)) ∈ z_ws := z_wt 308 (by decide +kernel) rfl
theorem zw_309 : (constant "Tidewater$Growth" (18 : Nat) (999999 : Int32)) ∈ z_ws := z_wt 309 (by decide +kernel) rfl
theorem zw_310 : (fieldLink "Tidewater$Growth" (9 : Nat) "Tidewater$Growth" "way" "I") ∈ z_ws := z_wt 310 (by decide +kernel) rfl
theorem zw_311 : (fieldLink "Tidewater" (126 : Nat) "Tidewater$Growth" "way" "I") ∈ z_ws := z_wt 311 (by decide +kernel) rfl
theorem zw_312 : (fieldLink "Tidewater$Growth" (15 : Nat) "Tidewater$Growth" "window" "I") ∈ z_ws := z_wt 312 (by decide +kernel) rfl
theorem zw_313 : (fieldLink "Tidewater$Route" (57 : Nat) "Tidewater$Growth" "window" "I") ∈ z_ws := z_wt 313 (by decide +kernel) rfl
theorem zw_314 : (fieldLink "Tidewater" (176 : Nat) "Tidewater$Growth" "window" "I") ∈ z_ws := z_wt 314 (by decide +kernel) rfl
theorem zw_315 : (fieldLink "Tidewater$Growth" (19 : Nat) "Tidewater$Growth" "bound" "I") ∈ z_ws := z_wt 315 (by decide +kernel) rfl
theorem zw_316 : (fieldLink "Tidewater" (179 : Nat) "Tidewater$Growth" "bound" "I") ∈ z_ws := z_wt 316 (by decide +kernel) rfl
theorem zw_317 : (fieldLink "Tidewater$Growth" (77 : Nat) "Tidewater$Growth" "harms" "I") ∈ z_ws := z_wt 317 (by decide +kernel) rfl
theorem zw_318 : (fieldLink "Tidewater" (278 : Nat) "Tidewater$Growth" "harms" "I") ∈ z_ws := z_wt 318 (by decide +kernel) rfl
theorem zw_319 : (fieldLink "Tidewater$Growth" (22 : Nat) "Tidewater$Growth" "windowBeforeHarm" "I") ∈ z_ws := z_wt 319 (by decide +kernel) rfl
theorem zw_320 : (fieldLink "Tidewater$Growth" (25 : Nat) "Tidewater$Growth" "boundBeforeHarm" "I") ∈ z_ws := z_wt 320 (by decide +kernel) rfl
theorem zw_321 : (fieldLink "Tidewater$Growth" (63 : Nat) "Tidewater$Growth" "harmedAt" "I") ∈ z_ws := z_wt 321 (by decide +kernel) rfl
theorem zw_322 : (fieldLink "Tidewater$Growth" (74 : Nat) "Tidewater$Growth" "sentBeforeHarm" "I") ∈ z_ws := z_wt 322 (by decide +kernel) rfl
theorem zw_323 : (fieldLink "Tidewater$Growth" (28 : Nat) "Tidewater$Growth" "harmingPacket" "I") ∈ z_ws := z_wt 323 (by decide +kernel) rfl
theorem zw_324 : (fieldLink "Tidewater$Growth" (31 : Nat) "Tidewater$Growth" "rates" "[I") ∈ z_ws := z_wt 324 (by decide +kernel) rfl
theorem zw_325 : (fieldLink "Tidewater$Growth" (71 : Nat) "Tidewater$Growth" "nextRate" "I") ∈ z_ws := z_wt 325 (by decide +kernel) rfl
theorem zw_349 : (fieldLink "Tidewater$Route" (34 : Nat) "Tidewater$Route" "path" "I") ∈ z_ws := z_wt 349 (by decide +kernel) rfl
theorem zw_350 : (fieldLink "Tidewater$Client" (293 : Nat) "Tidewater$Route" "path" "I") ∈ z_ws := z_wt 350 (by decide +kernel) rfl
theorem zw_351 : (fieldLink "Tidewater$Route" (12 : Nat) "Tidewater$Route" "growth" "LTidewater$Growth;") ∈ z_ws := z_wt 351 (by decide +kernel) rfl
theorem zw_352 : (fieldLink "Tidewater" (120 : Nat) "Tidewater$Route" "growth" "LTidewater$Growth;") ∈ z_ws := z_wt 352 (by decide +kernel) rfl
theorem zw_353 : (fieldLink "Tidewater$Client" (232 : Nat) "Tidewater$Route" "growth" "LTidewater$Growth;") ∈ z_ws := z_wt 353 (by decide +kernel) rfl
theorem zw_354 : (fieldLink "Tidewater$Route" (37 : Nat) "Tidewater$Route" "isChecked" "Z") ∈ z_ws := z_wt 354 (by decide +kernel) rfl
theorem zw_355 : (fieldLink "Tidewater$Client" (131 : Nat) "Tidewater$Route" "isChecked" "Z") ∈ z_ws := z_wt 355 (by decide +kernel) rfl
theorem zw_356 : (fieldLink "Tidewater" (139 : Nat) "Tidewater$Route" "isChecked" "Z") ∈ z_ws := z_wt 356 (by decide +kernel) rfl
theorem zw_357 : (fieldLink "Tidewater$Route" (54 : Nat) "Tidewater$Route" "inFlight" "I") ∈ z_ws := z_wt 357 (by decide +kernel) rfl
theorem zw_358 : (fieldLink "Tidewater$Client" (163 : Nat) "Tidewater$Route" "inFlight" "I") ∈ z_ws := z_wt 358 (by decide +kernel) rfl
theorem zw_359 : (fieldLink "Tidewater" (182 : Nat) "Tidewater$Route" "inFlight" "I") ∈ z_ws := z_wt 359 (by decide +kernel) rfl
theorem zw_360 : (fieldLink "Tidewater$Route" (18 : Nat) "Tidewater$Route" "time" "I") ∈ z_ws := z_wt 360 (by decide +kernel) rfl
theorem zw_361 : (fieldLink "Tidewater" (185 : Nat) "Tidewater$Route" "time" "I") ∈ z_ws := z_wt 361 (by decide +kernel) rfl
theorem zw_362 : (fieldLink "Tidewater$Route" (22 : Nat) "Tidewater$Route" "spread" "I") ∈ z_ws := z_wt 362 (by decide +kernel) rfl
theorem zw_363 : (fieldLink "Tidewater" (188 : Nat) "Tidewater$Route" "spread" "I") ∈ z_ws := z_wt 363 (by decide +kernel) rfl
theorem zw_364 : (fieldLink "Tidewater$Route" (25 : Nat) "Tidewater$Route" "least" "I") ∈ z_ws := z_wt 364 (by decide +kernel) rfl
theorem zw_365 : (fieldLink "Tidewater$Client" (251 : Nat) "Tidewater$Route" "least" "I") ∈ z_ws := z_wt 365 (by decide +kernel) rfl
theorem zw_366 : (fieldLink "Tidewater" (191 : Nat) "Tidewater$Route" "least" "I") ∈ z_ws := z_wt 366 (by decide +kernel) rfl
theorem zw_367 : (fieldLink "Tidewater$Route" (28 : Nat) "Tidewater$Route" "latest" "I") ∈ z_ws := z_wt 367 (by decide +kernel) rfl
theorem zw_368 : (fieldLink "Tidewater" (194 : Nat) "Tidewater$Route" "latest" "I") ∈ z_ws := z_wt 368 (by decide +kernel) rfl
theorem zw_369 : (fieldLink "Tidewater$Route" (41 : Nat) "Tidewater$Route" "isMeasured" "Z") ∈ z_ws := z_wt 369 (by decide +kernel) rfl
theorem zw_370 : (fieldLink "Tidewater$Client" (347 : Nat) "Tidewater$Route" "places" "I") ∈ z_ws := z_wt 370 (by decide +kernel) rfl
theorem zw_371 : (fieldLink "Tidewater$Route" (31 : Nat) "Tidewater$Route" "greatestPlace" "I") ∈ z_ws := z_wt 371 (by decide +kernel) rfl
theorem zw_372 : (fieldLink "Tidewater$Client" (257 : Nat) "Tidewater$Route" "greatestPlace" "I") ∈ z_ws := z_wt 372 (by decide +kernel) rfl
theorem zw_373 : (fieldLink "Tidewater$Client" (245 : Nat) "Tidewater$Route" "delivered" "I") ∈ z_ws := z_wt 373 (by decide +kernel) rfl
theorem zw_374 : (fieldLink "Tidewater$Route" (70 : Nat) "Tidewater$Route" "lastSentAt" "I") ∈ z_ws := z_wt 374 (by decide +kernel) rfl
theorem zw_375 : (fieldLink "Tidewater$Client" (350 : Nat) "Tidewater$Route" "lastSentAt" "I") ∈ z_ws := z_wt 375 (by decide +kernel) rfl
theorem zw_376 : (fieldLink "Tidewater$Route" (60 : Nat) "Tidewater$Route" "sentNow" "I") ∈ z_ws := z_wt 376 (by decide +kernel) rfl
theorem zw_377 : (fieldLink "Tidewater$Client" (309 : Nat) "Tidewater$Route" "sentNow" "I") ∈ z_ws := z_wt 377 (by decide +kernel) rfl
theorem zw_378 : (fieldLink "Tidewater$Route" (73 : Nat) "Tidewater$Route" "doublings" "I") ∈ z_ws := z_wt 378 (by decide +kernel) rfl
theorem zw_379 : (fieldLink "Tidewater$Client" (219 : Nat) "Tidewater$Route" "doublings" "I") ∈ z_ws := z_wt 379 (by decide +kernel) rfl
theorem zw_380 : (fieldLink "Tidewater$Client" (290 : Nat) "Tidewater$Route" "losses" "I") ∈ z_ws := z_wt 380 (by decide +kernel) rfl
theorem zw_381 : (fieldLink "Tidewater" (263 : Nat) "Tidewater$Route" "losses" "I") ∈ z_ws := z_wt 381 (by decide +kernel) rfl
theorem zw_382 : (fieldLink "Tidewater$Client" (266 : Nat) "Tidewater$Route" "falseLosses" "I") ∈ z_ws := z_wt 382 (by decide +kernel) rfl
theorem zw_383 : (fieldLink "Tidewater" (266 : Nat) "Tidewater$Route" "falseLosses" "I") ∈ z_ws := z_wt 383 (by decide +kernel) rfl
theorem zw_384 : (fieldLink "Tidewater$Client" (302 : Nat) "Tidewater$Route" "probes" "I") ∈ z_ws := z_wt 384 (by decide +kernel) rfl
theorem zw_385 : (fieldLink "Tidewater" (269 : Nat) "Tidewater$Route" "probes" "I") ∈ z_ws := z_wt 385 (by decide +kernel) rfl
theorem zw_423 : (classLink "Tidewater$Client" (23 : Nat) "Tidewater$Packet") ∈ z_ws := z_wt 423 (by decide +kernel) rfl
theorem zw_424 : (arrayOver (FieldType.object "Tidewater$Packet")) ∈ z_ws := z_wt 424 (by decide +kernel) rfl
theorem zw_425 : (fieldLink "Tidewater$Client" (45 : Nat) "Tidewater$Client" "network" "LTidewater$Network;") ∈ z_ws := z_wt 425 (by decide +kernel) rfl
theorem zw_426 : (fieldLink "Tidewater$Client" (49 : Nat) "Tidewater$Client" "streams" "[LTidewater$Stream;") ∈ z_ws := z_wt 426 (by decide +kernel) rfl
theorem zw_427 : (fieldLink "Tidewater$Client" (14 : Nat) "Tidewater$Client" "route0" "LTidewater$Route;") ∈ z_ws := z_wt 427 (by decide +kernel) rfl
theorem zw_428 : (fieldLink "Tidewater$Client" (20 : Nat) "Tidewater$Client" "route1" "LTidewater$Route;") ∈ z_ws := z_wt 428 (by decide +kernel) rfl
theorem zw_429 : (fieldLink "Tidewater$Client" (25 : Nat) "Tidewater$Client" "packets" "[LTidewater$Packet;") ∈ z_ws := z_wt 429 (by decide +kernel) rfl
theorem zw_430 : (fieldLink "Tidewater$Client" (53 : Nat) "Tidewater$Client" "sent" "I") ∈ z_ws := z_wt 430 (by decide +kernel) rfl
theorem zw_431 : (fieldLink "Tidewater" (225 : Nat) "Tidewater$Client" "sent" "I") ∈ z_ws := z_wt 431 (by decide +kernel) rfl
theorem zw_432 : (fieldLink "Tidewater$Client" (152 : Nat) "Tidewater$Client" "firstOpen" "I") ∈ z_ws := z_wt 432 (by decide +kernel) rfl
theorem zw_433 : (fieldLink "Tidewater$Client" (29 : Nat) "Tidewater$Client" "state" "I") ∈ z_ws := z_wt 433 (by decide +kernel) rfl
theorem zw_434 : (fieldLink "Tidewater" (103 : Nat) "Tidewater$Client" "state" "I") ∈ z_ws := z_wt 434 (by decide +kernel) rfl
theorem zw_435 : (fieldLink "Tidewater$Client" (33 : Nat) "Tidewater$Client" "ticket" "I") ∈ z_ws := z_wt 435 (by decide +kernel) rfl
theorem zw_436 : (fieldLink "Tidewater$Client" (74 : Nat) "Tidewater$Client" "hasCookie" "Z") ∈ z_ws := z_wt 436 (by decide +kernel) rfl
theorem zw_437 : (fieldLink "Tidewater$Client" (59 : Nat) "Tidewater$Client" "hellos" "I") ∈ z_ws := z_wt 437 (by decide +kernel) rfl
theorem zw_438 : (fieldLink "Tidewater" (272 : Nat) "Tidewater$Client" "hellos" "I") ∈ z_ws := z_wt 438 (by decide +kernel) rfl
theorem zw_439 : (fieldLink "Tidewater$Client" (67 : Nat) "Tidewater$Client" "helloAt" "I") ∈ z_ws := z_wt 439 (by decide +kernel) rfl
theorem zw_440 : (fieldLink "Tidewater$Client" (36 : Nat) "Tidewater$Client" "helloWait" "I") ∈ z_ws := z_wt 440 (by decide +kernel) rfl
theorem zw_441 : (fieldLink "Tidewater$Client" (98 : Nat) "Tidewater$Client" "closedAt" "I") ∈ z_ws := z_wt 441 (by decide +kernel) rfl
theorem zw_442 : (fieldLink "Tidewater$Client" (90 : Nat) "Tidewater$Client" "key" "I") ∈ z_ws := z_wt 442 (by decide +kernel) rfl
theorem zw_443 : (fieldLink "Tidewater" (149 : Nat) "Tidewater$Client" "key" "I") ∈ z_ws := z_wt 443 (by decide +kernel) rfl
theorem zw_444 : (fieldLink "Tidewater$Client" (101 : Nat) "Tidewater$Client" "used" "I") ∈ z_ws := z_wt 444 (by decide +kernel) rfl
theorem zw_445 : (fieldLink "Tidewater" (142 : Nat) "Tidewater$Client" "used" "I") ∈ z_ws := z_wt 445 (by decide +kernel) rfl
theorem zw_446 : (fieldLink "Tidewater$Client" (39 : Nat) "Tidewater$Client" "creditOfAll" "I") ∈ z_ws := z_wt 446 (by decide +kernel) rfl
theorem zw_447 : (fieldLink "Tidewater" (222 : Nat) "Tidewater$Client" "creditOfAll" "I") ∈ z_ws := z_wt 447 (by decide +kernel) rfl
theorem zw_448 : (fieldLink "Tidewater$Client" (42 : Nat) "Tidewater$Client" "lastStream" "I") ∈ z_ws := z_wt 448 (by decide +kernel) rfl
theorem zw_449 : (fieldLink "Tidewater$Client" (229 : Nat) "Tidewater$Client" "marksKnown" "I") ∈ z_ws := z_wt 449 (by decide +kernel) rfl
theorem zw_489 : (fieldLink "Tidewater" (10 : Nat) "Tidewater" "network" "LTidewater$Network;") ∈ z_ws := z_wt 489 (by decide +kernel) rfl
theorem zw_490 : (fieldLink "Tidewater" (18 : Nat) "Tidewater" "streams" "[LTidewater$Stream;") ∈ z_ws := z_wt 490 (by decide +kernel) rfl
theorem zw_491 : (fieldLink "Tidewater" (28 : Nat) "Tidewater" "server" "LTidewater$Server;") ∈ z_ws := z_wt 491 (by decide +kernel) rfl
theorem zw_492 : (fieldLink "Tidewater" (35 : Nat) "Tidewater" "client" "LTidewater$Client;") ∈ z_ws := z_wt 492 (by decide +kernel) rfl
theorem zw_493 : (fieldLink "Tidewater" (39 : Nat) "Tidewater" "gotRow" "[Z") ∈ z_ws := z_wt 493 (by decide +kernel) rfl
theorem zw_505 : (methodLink "TidewaterLaw" (115 : Nat) ({ cls := "Tidewater", name := "setCookies", desc := "(Z)Z" } : Jvm.MethodName)) ∈ z_ws := z_wt 505 (by decide +kernel) rfl
theorem zw_506 : (instanceMethod ({ cls := "Tidewater", name := "setCookies", desc := "(Z)Z" } : Jvm.MethodName)) ∈ z_ws := z_wt 506 (by decide +kernel) rfl
theorem zw_507 : (selects "Tidewater" ({ cls := "Tidewater", name := "setCookies", desc := "(Z)Z" } : Jvm.MethodName) ({ cls := "Tidewater", name := "setCookies", desc := "(Z)Z" } : Jvm.MethodName)) ∈ z_ws := z_wt 507 (by decide +kernel) rfl
theorem zw_508 : (code ({ cls := "Tidewater", name := "setCookies", desc := "(Z)Z" } : Jvm.MethodName) prog_1_method_7_code (3 : Nat) (Option.some FieldType.boolean)) ∈ z_ws := z_wt 508 (by decide +kernel) rfl
theorem zw_509 : (methodLink "TidewaterLaw" (123 : Nat) ({ cls := "Tidewater", name := "loseState", desc := "()V" } : Jvm.MethodName)) ∈ z_ws := z_wt 509 (by decide +kernel) rfl
theorem zw_510 : (instanceMethod ({ cls := "Tidewater", name := "loseState", desc := "()V" } : Jvm.MethodName)) ∈ z_ws := z_wt 510 (by decide +kernel) rfl
theorem zw_511 : (selects "Tidewater" ({ cls := "Tidewater", name := "loseState", desc := "()V" } : Jvm.MethodName) ({ cls := "Tidewater", name := "loseState", desc := "()V" } : Jvm.MethodName)) ∈ z_ws := z_wt 511 (by decide +kernel) rfl
theorem zw_512 : (code ({ cls := "Tidewater", name := "loseState", desc := "()V" } : Jvm.MethodName) prog_1_method_9_code (1 : Nat) (Option.none : Option FieldType)) ∈ z_ws := z_wt 512 (by decide +kernel) rfl
theorem zw_513 : (methodLink "Tidewater" (100 : Nat) ({ cls := "Tidewater$Server", name := "forget", desc := "()V" } : Jvm.MethodName)) ∈ z_ws := z_wt 513 (by decide +kernel) rfl
theorem zw_514 : (instanceMethod ({ cls := "Tidewater$Server", name := "forget", desc := "()V" } : Jvm.MethodName)) ∈ z_ws := z_wt 514 (by decide +kernel) rfl
theorem zw_515 : (selects "Tidewater$Server" ({ cls := "Tidewater$Server", name := "forget", desc := "()V" } : Jvm.MethodName) ({ cls := "Tidewater$Server", name := "forget", desc := "()V" } : Jvm.MethodName)) ∈ z_ws := z_wt 515 (by decide +kernel) rfl
theorem zw_516 : (code ({ cls := "Tidewater$Server", name := "forget", desc := "()V" } : Jvm.MethodName) prog_10_method_3_code (1 : Nat) (Option.none : Option FieldType)) ∈ z_ws := z_wt 516 (by decide +kernel) rfl
theorem zw_517 : (methodLinkNest "Tidewater$Server" (66 : Nat) ({ cls := "Tidewater", name := "clearRow", desc := "([Z)V" } : Jvm.MethodName) "Tidewater") ∈ z_ws := z_wt 517 (by decide +kernel) rfl
theorem zw_518 : (static ({ cls := "Tidewater", name := "clearRow", desc := "([Z)V" } : Jvm.MethodName)) ∈ z_ws := z_wt 518 (by decide +kernel) rfl
theorem zw_519 : (code ({ cls := "Tidewater", name := "clearRow", desc := "([Z)V" } : Jvm.MethodName) prog_1_method_34_code (2 : Nat) (Option.none : Option FieldType)) ∈ z_ws := z_wt 519 (by decide +kernel) rfl
theorem zw_520 : (methodLink "TidewaterLaw" (155 : Nat) ({ cls := "Tidewater", name := "now", desc := "()I" } : Jvm.MethodName)) ∈ z_ws := z_wt 520 (by decide +kernel) rfl
theorem zw_521 : (instanceMethod ({ cls := "Tidewater", name := "now", desc := "()I" } : Jvm.MethodName)) ∈ z_ws := z_wt 521 (by decide +kernel) rfl
theorem zw_522 : (selects "Tidewater" ({ cls := "Tidewater", name := "now", desc := "()I" } : Jvm.MethodName) ({ cls := "Tidewater", name := "now", desc := "()I" } : Jvm.MethodName)) ∈ z_ws := z_wt 522 (by decide +kernel) rfl
theorem zw_523 : (code ({ cls := "Tidewater", name := "now", desc := "()I" } : Jvm.MethodName) prog_1_method_18_code (1 : Nat) (Option.some FieldType.int)) ∈ z_ws := z_wt 523 (by decide +kernel) rfl
theorem zw_524 : (methodLink "TidewaterLaw" (168 : Nat) ({ cls := "Tidewater", name := "credit", desc := "()I" } : Jvm.MethodName)) ∈ z_ws := z_wt 524 (by decide +kernel) rfl
theorem zw_525 : (instanceMethod ({ cls := "Tidewater", name := "credit", desc := "()I" } : Jvm.MethodName)) ∈ z_ws := z_wt 525 (by decide +kernel) rfl
theorem zw_526 : (selects "Tidewater" ({ cls := "Tidewater", name := "credit", desc := "()I" } : Jvm.MethodName) ({ cls := "Tidewater", name := "credit", desc := "()I" } : Jvm.MethodName)) ∈ z_ws := z_wt 526 (by decide +kernel) rfl
theorem zw_527 : (code ({ cls := "Tidewater", name := "credit", desc := "()I" } : Jvm.MethodName) prog_1_method_22_code (1 : Nat) (Option.some FieldType.int)) ∈ z_ws := z_wt 527 (by decide +kernel) rfl
theorem zw_528 : (methodLink "TidewaterLaw" (172 : Nat) ({ cls := "Tidewater", name := "packets", desc := "()I" } : Jvm.MethodName)) ∈ z_ws := z_wt 528 (by decide +kernel) rfl
theorem zw_529 : (instanceMethod ({ cls := "Tidewater", name := "packets", desc := "()I" } : Jvm.MethodName)) ∈ z_ws := z_wt 529 (by decide +kernel) rfl
theorem zw_530 : (selects "Tidewater" ({ cls := "Tidewater", name := "packets", desc := "()I" } : Jvm.MethodName) ({ cls := "Tidewater", name := "packets", desc := "()I" } : Jvm.MethodName)) ∈ z_ws := z_wt 530 (by decide +kernel) rfl
theorem zw_531 : (code ({ cls := "Tidewater", name := "packets", desc := "()I" } : Jvm.MethodName) prog_1_method_23_code (1 : Nat) (Option.some FieldType.int)) ∈ z_ws := z_wt 531 (by decide +kernel) rfl
theorem zw_532 : (methodLink "TidewaterLaw" (90 : Nat) ({ cls := "TidewaterLaw", name := "setPath", desc := "(LTidewater;IIIII)I" } : Jvm.MethodName)) ∈ z_ws := z_wt 532 (by decide +kernel) rfl
theorem zw_533 : (static ({ cls := "TidewaterLaw", name := "setPath", desc := "(LTidewater;IIIII)I" } : Jvm.MethodName)) ∈ z_ws := z_wt 533 (by decide +kernel) rfl
theorem zw_534 : (codeWith ({ cls := "TidewaterLaw", name := "setPath", desc := "(LTidewater;IIIII)I" } : Jvm.MethodName) method_3_code (7 : Nat) (Option.some FieldType.int) [((0 : Nat), (11 : Nat), (14 : Nat), (13 : Nat)), ((0 : Nat), (11 : Nat), (18 : Nat), (15 : Nat))]) ∈ z_ws := z_wt 534 (by decide +kernel) rfl
theorem zw_535 : (classLink "TidewaterLaw" (13 : Nat) "java/lang/IndexOutOfBoundsException") ∈ z_ws := z_wt 535 (by decide +kernel) rfl
theorem zw_536 : (classLink "TidewaterLaw" (15 : Nat) "java/lang/IllegalArgumentException") ∈ z_ws := z_wt 536 (by decide +kernel) rfl
theorem zw_537 : (methodLink "TidewaterLaw" (7 : Nat) ({ cls := "Tidewater", name := "setPath", desc := "(IIIII)V" } : Jvm.MethodName)) ∈ z_ws := z_wt 537 (by decide +kernel) rfl
theorem zw_538 : (instanceMethod ({ cls := "Tidewater", name := "setPath", desc := "(IIIII)V" } : Jvm.MethodName)) ∈ z_ws := z_wt 538 (by decide +kernel) rfl
theorem zw_539 : (selects "Tidewater" ({ cls := "Tidewater", name := "setPath", desc := "(IIIII)V" } : Jvm.MethodName) ({ cls := "Tidewater", name := "setPath", desc := "(IIIII)V" } : Jvm.MethodName)) ∈ z_ws := z_wt 539 (by decide +kernel) rfl
theorem zw_540 : (code ({ cls := "Tidewater", name := "setPath", desc := "(IIIII)V" } : Jvm.MethodName) prog_1_method_2_code (7 : Nat) (Option.none : Option FieldType)) ∈ z_ws := z_wt 540 (by decide +kernel) rfl
theorem zw_541 : (methodLink "Tidewater" (43 : Nat) ({ cls := "Tidewater", name := "requirePath", desc := "(I)V" } : Jvm.MethodName)) ∈ z_ws := z_wt 541 (by decide +kernel) rfl
theorem zw_542 : (static ({ cls := "Tidewater", name := "requirePath", desc := "(I)V" } : Jvm.MethodName)) ∈ z_ws := z_wt 542 (by decide +kernel) rfl
theorem zw_543 : (code ({ cls := "Tidewater", name := "requirePath", desc := "(I)V" } : Jvm.MethodName) prog_1_method_29_code (1 : Nat) (Option.none : Option FieldType)) ∈ z_ws := z_wt 543 (by decide +kernel) rfl
theorem zw_544 : (classLink "Tidewater" (296 : Nat) "java/lang/IndexOutOfBoundsException") ∈ z_ws := z_wt 544 (by decide +kernel) rfl
theorem zw_545 : (instantiable "java/lang/IndexOutOfBoundsException" (6 : Nat)) ∈ z_ws := z_wt 545 (by decide +kernel) rfl
theorem zw_546 : (castable "java/lang/IndexOutOfBoundsException" "java/lang/IndexOutOfBoundsException") ∈ z_ws := z_wt 546 (by decide +kernel) rfl
theorem zw_553 : (selects "java/lang/IndexOutOfBoundsException" ({ cls := "java/lang/Throwable", name := "fillInStackTrace", desc := "(I)Ljava/lang/Throwable;" } : Jvm.MethodName) ({ cls := "java/lang/Throwable", name := "fillInStackTrace", desc := "(I)Ljava/lang/Throwable;" } : Jvm.MethodName)) ∈ z_ws := z_wt 553 (by decide +kernel) rfl
theorem zw_554 : (selects "java/lang/IndexOutOfBoundsException" ({ cls := "java/lang/Throwable", name := "fillInStackTrace", desc := "()Ljava/lang/Throwable;" } : Jvm.MethodName) ({ cls := "java/lang/Throwable", name := "fillInStackTrace", desc := "()Ljava/lang/Throwable;" } : Jvm.MethodName)) ∈ z_ws := z_wt 554 (by decide +kernel) rfl
theorem zw_565 : (fieldLink "java/lang/Throwable" (198 : Nat) "java/lang/Throwable" "backtrace" "Ljava/lang/Object;") ∈ z_ws := z_wt 565 (by decide +kernel) rfl
theorem zw_567 : (instanceMethod ({ cls := "java/lang/Throwable", name := "<init>", desc := "()V" } : Jvm.MethodName)) ∈ z_ws := z_wt 567 (by decide +kernel) rfl
theorem zw_568 : (code ({ cls := "java/lang/Throwable", name := "<init>", desc := "()V" } : Jvm.MethodName) prog_23_method_1_code (1 : Nat) (Option.none : Option FieldType)) ∈ z_ws := z_wt 568 (by decide +kernel) rfl
theorem zw_569 : (methodLink "java/lang/Throwable" (1 : Nat) ({ cls := "java/lang/Object", name := "<init>", desc := "()V" } : Jvm.MethodName)) ∈ z_ws := z_wt 569 (by decide +kernel) rfl
theorem zw_570 : (fieldLink "java/lang/Throwable" (13 : Nat) "java/lang/Throwable" "UNASSIGNED_STACK" "[Ljava/lang/StackTraceElement;") ∈ z_ws := z_wt 570 (by decide +kernel) rfl
theorem zw_572 : (fieldLink "java/lang/Throwable" (20 : Nat) "java/lang/Throwable" "SUPPRESSED_SENTINEL" "Ljava/util/List;") ∈ z_ws := z_wt 572 (by decide +kernel) rfl
theorem zw_574 : (methodLink "java/lang/Throwable" (27 : Nat) ({ cls := "java/lang/Throwable", name := "fillInStackTrace", desc := "()Ljava/lang/Throwable;" } : Jvm.MethodName)) ∈ z_ws := z_wt 574 (by decide +kernel) rfl
theorem zw_575 : (instanceMethod ({ cls := "java/lang/Throwable", name := "fillInStackTrace", desc := "()Ljava/lang/Throwable;" } : Jvm.MethodName)) ∈ z_ws := z_wt 575 (by decide +kernel) rfl
theorem zw_577 : (selects "java/lang/IllegalArgumentException" ({ cls := "java/lang/Throwable", name := "fillInStackTrace", desc := "()Ljava/lang/Throwable;" } : Jvm.MethodName) ({ cls := "java/lang/Throwable", name := "fillInStackTrace", desc := "()Ljava/lang/Throwable;" } : Jvm.MethodName)) ∈ z_ws := z_wt 577 (by decide +kernel) rfl
theorem zw_578 : (selects "java/lang/IllegalStateException" ({ cls := "java/lang/Throwable", name := "fillInStackTrace", desc := "()Ljava/lang/Throwable;" } : Jvm.MethodName) ({ cls := "java/lang/Throwable", name := "fillInStackTrace", desc := "()Ljava/lang/Throwable;" } : Jvm.MethodName)) ∈ z_ws := z_wt 578 (by decide +kernel) rfl
theorem zw_580 : (methodLink "java/lang/Throwable" (202 : Nat) ({ cls := "java/lang/Throwable", name := "fillInStackTrace", desc := "(I)Ljava/lang/Throwable;" } : Jvm.MethodName)) ∈ z_ws := z_wt 580 (by decide +kernel) rfl
theorem zw_582 : (instanceMethod ({ cls := "java/lang/Throwable", name := "fillInStackTrace", desc := "(I)Ljava/lang/Throwable;" } : Jvm.MethodName)) ∈ z_ws := z_wt 582 (by decide +kernel) rfl
theorem zw_583 : (instantiable "java/lang/Throwable" (6 : Nat)) ∈ z_ws := z_wt 583 (by decide +kernel) rfl
theorem zw_584 : (native ({ cls := "java/lang/Throwable", name := "fillInStackTrace", desc := "(I)Ljava/lang/Throwable;" } : Jvm.MethodName)) ∈ z_ws := z_wt 584 (by decide +kernel) rfl
theorem zw_586 : (methodLink "Tidewater" (300 : Nat) ({ cls := "java/lang/IndexOutOfBoundsException", name := "<init>", desc := "(Ljava/lang/String;)V" } : Jvm.MethodName)) ∈ z_ws := z_wt 586 (by decide +kernel) rfl
theorem zw_587 : (instanceMethod ({ cls := "java/lang/IndexOutOfBoundsException", name := "<init>", desc := "(Ljava/lang/String;)V" } : Jvm.MethodName)) ∈ z_ws := z_wt 587 (by decide +kernel) rfl
theorem zw_588 : (code ({ cls := "java/lang/IndexOutOfBoundsException", name := "<init>", desc := "(Ljava/lang/String;)V" } : Jvm.MethodName) prog_18_method_2_code (2 : Nat) (Option.none : Option FieldType)) ∈ z_ws := z_wt 588 (by decide +kernel) rfl
theorem zw_589 : (methodLink "java/lang/IndexOutOfBoundsException" (7 : Nat) ({ cls := "java/lang/RuntimeException", name := "<init>", desc := "(Ljava/lang/String;)V" } : Jvm.MethodName)) ∈ z_ws := z_wt 589 (by decide +kernel) rfl
theorem zw_590 : (instanceMethod ({ cls := "java/lang/RuntimeException", name := "<init>", desc := "(Ljava/lang/String;)V" } : Jvm.MethodName)) ∈ z_ws := z_wt 590 (by decide +kernel) rfl
theorem zw_591 : (code ({ cls := "java/lang/RuntimeException", name := "<init>", desc := "(Ljava/lang/String;)V" } : Jvm.MethodName) prog_20_method_2_code (2 : Nat) (Option.none : Option FieldType)) ∈ z_ws := z_wt 591 (by decide +kernel) rfl
theorem zw_592 : (methodLink "java/lang/RuntimeException" (7 : Nat) ({ cls := "java/lang/Exception", name := "<init>", desc := "(Ljava/lang/String;)V" } : Jvm.MethodName)) ∈ z_ws := z_wt 592 (by decide +kernel) rfl
theorem zw_593 : (instanceMethod ({ cls := "java/lang/Exception", name := "<init>", desc := "(Ljava/lang/String;)V" } : Jvm.MethodName)) ∈ z_ws := z_wt 593 (by decide +kernel) rfl
theorem zw_594 : (code ({ cls := "java/lang/Exception", name := "<init>", desc := "(Ljava/lang/String;)V" } : Jvm.MethodName) prog_15_method_2_code (2 : Nat) (Option.none : Option FieldType)) ∈ z_ws := z_wt 594 (by decide +kernel) rfl
theorem zw_595 : (methodLink "java/lang/Exception" (7 : Nat) ({ cls := "java/lang/Throwable", name := "<init>", desc := "(Ljava/lang/String;)V" } : Jvm.MethodName)) ∈ z_ws := z_wt 595 (by decide +kernel) rfl
theorem zw_596 : (instanceMethod ({ cls := "java/lang/Throwable", name := "<init>", desc := "(Ljava/lang/String;)V" } : Jvm.MethodName)) ∈ z_ws := z_wt 596 (by decide +kernel) rfl
theorem zw_597 : (code ({ cls := "java/lang/Throwable", name := "<init>", desc := "(Ljava/lang/String;)V" } : Jvm.MethodName) prog_23_method_2_code (2 : Nat) (Option.none : Option FieldType)) ∈ z_ws := z_wt 597 (by decide +kernel) rfl
theorem zw_598 : (fieldLink "java/lang/Throwable" (198 : Nat) "java/lang/Throwable" "backtrace" "Ljava/lang/Object;") ∈ z_ws := z_wt 598 (by decide +kernel) rfl
theorem zw_599 : (fieldLink "java/lang/Throwable" (31 : Nat) "java/lang/Throwable" "detailMessage" "Ljava/lang/String;") ∈ z_ws := z_wt 599 (by decide +kernel) rfl
theorem zw_600 : (fieldLink "java/lang/Throwable" (7 : Nat) "java/lang/Throwable" "cause" "Ljava/lang/Throwable;") ∈ z_ws := z_wt 600 (by decide +kernel) rfl
theorem zw_601 : (fieldLink "java/lang/Throwable" (17 : Nat) "java/lang/Throwable" "stackTrace" "[Ljava/lang/StackTraceElement;") ∈ z_ws := z_wt 601 (by decide +kernel) rfl
theorem zw_602 : (fieldLink "java/lang/Throwable" (24 : Nat) "java/lang/Throwable" "suppressedExceptions" "Ljava/util/List;") ∈ z_ws := z_wt 602 (by decide +kernel) rfl
theorem zw_611 : (arrayClass FieldType.byte) ∈ z_ws := z_wt 611 (by decide +kernel) rfl
theorem zw_612 : (methodLink "Tidewater" (47 : Nat) ({ cls := "Tidewater", name := "requireRange", desc := "(III)V" } : Jvm.MethodName)) ∈ z_ws := z_wt 612 (by decide +kernel) rfl
theorem zw_613 : (static ({ cls := "Tidewater", name := "requireRange", desc := "(III)V" } : Jvm.MethodName)) ∈ z_ws := z_wt 613 (by decide +kernel) rfl
theorem zw_614 : (code ({ cls := "Tidewater", name := "requireRange", desc := "(III)V" } : Jvm.MethodName) prog_1_method_31_code (3 : Nat) (Option.none : Option FieldType)) ∈ z_ws := z_wt 614 (by decide +kernel) rfl
theorem zw_615 : (classLink "Tidewater" (307 : Nat) "java/lang/IllegalArgumentException") ∈ z_ws := z_wt 615 (by decide +kernel) rfl
theorem zw_616 : (instantiable "java/lang/IllegalArgumentException" (6 : Nat)) ∈ z_ws := z_wt 616 (by decide +kernel) rfl
theorem zw_617 : (castable "java/lang/IllegalArgumentException" "java/lang/IllegalArgumentException") ∈ z_ws := z_wt 617 (by decide +kernel) rfl
theorem zw_618 : (selects "java/lang/IllegalArgumentException" ({ cls := "java/lang/Throwable", name := "fillInStackTrace", desc := "(I)Ljava/lang/Throwable;" } : Jvm.MethodName) ({ cls := "java/lang/Throwable", name := "fillInStackTrace", desc := "(I)Ljava/lang/Throwable;" } : Jvm.MethodName)) ∈ z_ws := z_wt 618 (by decide +kernel) rfl
theorem zw_625 : (methodLink "Tidewater" (311 : Nat) ({ cls := "java/lang/IllegalArgumentException", name := "<init>", desc := "(Ljava/lang/String;)V" } : Jvm.MethodName)) ∈ z_ws := z_wt 625 (by decide +kernel) rfl
theorem zw_626 : (instanceMethod ({ cls := "java/lang/IllegalArgumentException", name := "<init>", desc := "(Ljava/lang/String;)V" } : Jvm.MethodName)) ∈ z_ws := z_wt 626 (by decide +kernel) rfl
theorem zw_627 : (code ({ cls := "java/lang/IllegalArgumentException", name := "<init>", desc := "(Ljava/lang/String;)V" } : Jvm.MethodName) prog_16_method_2_code (2 : Nat) (Option.none : Option FieldType)) ∈ z_ws := z_wt 627 (by decide +kernel) rfl
theorem zw_628 : (methodLink "java/lang/IllegalArgumentException" (7 : Nat) ({ cls := "java/lang/RuntimeException", name := "<init>", desc := "(Ljava/lang/String;)V" } : Jvm.MethodName)) ∈ z_ws := z_wt 628 (by decide +kernel) rfl
theorem zw_631 : (methodLink "Tidewater" (51 : Nat) ({ cls := "Tidewater$Network", name := "laneOf", desc := "(I)LTidewater$Lane;" } : Jvm.MethodName)) ∈ z_ws := z_wt 631 (by decide +kernel) rfl
theorem zw_632 : (instanceMethod ({ cls := "Tidewater$Network", name := "laneOf", desc := "(I)LTidewater$Lane;" } : Jvm.MethodName)) ∈ z_ws := z_wt 632 (by decide +kernel) rfl
theorem zw_633 : (selects "Tidewater$Network" ({ cls := "Tidewater$Network", name := "laneOf", desc := "(I)LTidewater$Lane;" } : Jvm.MethodName) ({ cls := "Tidewater$Network", name := "laneOf", desc := "(I)LTidewater$Lane;" } : Jvm.MethodName)) ∈ z_ws := z_wt 633 (by decide +kernel) rfl
theorem zw_634 : (code ({ cls := "Tidewater$Network", name := "laneOf", desc := "(I)LTidewater$Lane;" } : Jvm.MethodName) prog_7_method_2_code (2 : Nat) (Option.some (FieldType.object "Tidewater$Lane"))) ∈ z_ws := z_wt 634 (by decide +kernel) rfl
theorem zw_635 : (methodLink "TidewaterLaw" (99 : Nat) ({ cls := "TidewaterLaw", name := "setUp", desc := "(LTidewater;IZ[J)I" } : Jvm.MethodName)) ∈ z_ws := z_wt 635 (by decide +kernel) rfl
theorem zw_636 : (static ({ cls := "TidewaterLaw", name := "setUp", desc := "(LTidewater;IZ[J)I" } : Jvm.MethodName)) ∈ z_ws := z_wt 636 (by decide +kernel) rfl
theorem zw_637 : (codeWith ({ cls := "TidewaterLaw", name := "setUp", desc := "(LTidewater;IZ[J)I" } : Jvm.MethodName) method_4_code (5 : Nat) (Option.some FieldType.int) [((0 : Nat), (17 : Nat), (20 : Nat), (13 : Nat))]) ∈ z_ws := z_wt 637 (by decide +kernel) rfl
theorem zw_638 : (methodLink "TidewaterLaw" (17 : Nat) ({ cls := "Tidewater", name := "setUp", desc := "(IZ)Z" } : Jvm.MethodName)) ∈ z_ws := z_wt 638 (by decide +kernel) rfl
theorem zw_639 : (instanceMethod ({ cls := "Tidewater", name := "setUp", desc := "(IZ)Z" } : Jvm.MethodName)) ∈ z_ws := z_wt 639 (by decide +kernel) rfl
theorem zw_640 : (selects "Tidewater" ({ cls := "Tidewater", name := "setUp", desc := "(IZ)Z" } : Jvm.MethodName) ({ cls := "Tidewater", name := "setUp", desc := "(IZ)Z" } : Jvm.MethodName)) ∈ z_ws := z_wt 640 (by decide +kernel) rfl
theorem zw_641 : (code ({ cls := "Tidewater", name := "setUp", desc := "(IZ)Z" } : Jvm.MethodName) prog_1_method_3_code (5 : Nat) (Option.some FieldType.boolean)) ∈ z_ws := z_wt 641 (by decide +kernel) rfl
theorem zw_642 : (methodLink "TidewaterLaw" (103 : Nat) ({ cls := "TidewaterLaw", name := "lose", desc := "(LTidewater;IZI)I" } : Jvm.MethodName)) ∈ z_ws := z_wt 642 (by decide +kernel) rfl
theorem zw_643 : (static ({ cls := "TidewaterLaw", name := "lose", desc := "(LTidewater;IZI)I" } : Jvm.MethodName)) ∈ z_ws := z_wt 643 (by decide +kernel) rfl
theorem zw_644 : (codeWith ({ cls := "TidewaterLaw", name := "lose", desc := "(LTidewater;IZI)I" } : Jvm.MethodName) method_5_code (5 : Nat) (Option.some FieldType.int) [((0 : Nat), (7 : Nat), (10 : Nat), (13 : Nat)), ((0 : Nat), (7 : Nat), (14 : Nat), (15 : Nat))]) ∈ z_ws := z_wt 644 (by decide +kernel) rfl
theorem zw_645 : (methodLink "TidewaterLaw" (21 : Nat) ({ cls := "Tidewater", name := "lose", desc := "(IZI)V" } : Jvm.MethodName)) ∈ z_ws := z_wt 645 (by decide +kernel) rfl
theorem zw_646 : (instanceMethod ({ cls := "Tidewater", name := "lose", desc := "(IZI)V" } : Jvm.MethodName)) ∈ z_ws := z_wt 646 (by decide +kernel) rfl
theorem zw_647 : (selects "Tidewater" ({ cls := "Tidewater", name := "lose", desc := "(IZI)V" } : Jvm.MethodName) ({ cls := "Tidewater", name := "lose", desc := "(IZI)V" } : Jvm.MethodName)) ∈ z_ws := z_wt 647 (by decide +kernel) rfl
theorem zw_648 : (code ({ cls := "Tidewater", name := "lose", desc := "(IZI)V" } : Jvm.MethodName) prog_1_method_4_code (5 : Nat) (Option.none : Option FieldType)) ∈ z_ws := z_wt 648 (by decide +kernel) rfl
theorem zw_649 : (methodLink "TidewaterLaw" (107 : Nat) ({ cls := "TidewaterLaw", name := "late", desc := "(LTidewater;III)I" } : Jvm.MethodName)) ∈ z_ws := z_wt 649 (by decide +kernel) rfl
theorem zw_650 : (static ({ cls := "TidewaterLaw", name := "late", desc := "(LTidewater;III)I" } : Jvm.MethodName)) ∈ z_ws := z_wt 650 (by decide +kernel) rfl
theorem zw_651 : (codeWith ({ cls := "TidewaterLaw", name := "late", desc := "(LTidewater;III)I" } : Jvm.MethodName) method_6_code (5 : Nat) (Option.some FieldType.int) [((0 : Nat), (7 : Nat), (10 : Nat), (13 : Nat)), ((0 : Nat), (7 : Nat), (14 : Nat), (15 : Nat))]) ∈ z_ws := z_wt 651 (by decide +kernel) rfl
theorem zw_652 : (methodLink "TidewaterLaw" (25 : Nat) ({ cls := "Tidewater", name := "late", desc := "(III)V" } : Jvm.MethodName)) ∈ z_ws := z_wt 652 (by decide +kernel) rfl
theorem zw_653 : (instanceMethod ({ cls := "Tidewater", name := "late", desc := "(III)V" } : Jvm.MethodName)) ∈ z_ws := z_wt 653 (by decide +kernel) rfl
theorem zw_654 : (selects "Tidewater" ({ cls := "Tidewater", name := "late", desc := "(III)V" } : Jvm.MethodName) ({ cls := "Tidewater", name := "late", desc := "(III)V" } : Jvm.MethodName)) ∈ z_ws := z_wt 654 (by decide +kernel) rfl
theorem zw_655 : (code ({ cls := "Tidewater", name := "late", desc := "(III)V" } : Jvm.MethodName) prog_1_method_5_code (5 : Nat) (Option.none : Option FieldType)) ∈ z_ws := z_wt 655 (by decide +kernel) rfl
theorem zw_656 : (methodLink "TidewaterLaw" (111 : Nat) ({ cls := "TidewaterLaw", name := "foreign", desc := "(LTidewater;II[J)I" } : Jvm.MethodName)) ∈ z_ws := z_wt 656 (by decide +kernel) rfl
theorem zw_657 : (static ({ cls := "TidewaterLaw", name := "foreign", desc := "(LTidewater;II[J)I" } : Jvm.MethodName)) ∈ z_ws := z_wt 657 (by decide +kernel) rfl
theorem zw_658 : (codeWith ({ cls := "TidewaterLaw", name := "foreign", desc := "(LTidewater;II[J)I" } : Jvm.MethodName) method_7_code (5 : Nat) (Option.some FieldType.int) [((0 : Nat), (10 : Nat), (13 : Nat), (13 : Nat)), ((0 : Nat), (10 : Nat), (17 : Nat), (15 : Nat))]) ∈ z_ws := z_wt 658 (by decide +kernel) rfl
theorem zw_659 : (methodLink "TidewaterLaw" (29 : Nat) ({ cls := "Tidewater", name := "foreign", desc := "(II)I" } : Jvm.MethodName)) ∈ z_ws := z_wt 659 (by decide +kernel) rfl
theorem zw_660 : (instanceMethod ({ cls := "Tidewater", name := "foreign", desc := "(II)I" } : Jvm.MethodName)) ∈ z_ws := z_wt 660 (by decide +kernel) rfl
theorem zw_661 : (selects "Tidewater" ({ cls := "Tidewater", name := "foreign", desc := "(II)I" } : Jvm.MethodName) ({ cls := "Tidewater", name := "foreign", desc := "(II)I" } : Jvm.MethodName)) ∈ z_ws := z_wt 661 (by decide +kernel) rfl
theorem zw_662 : (code ({ cls := "Tidewater", name := "foreign", desc := "(II)I" } : Jvm.MethodName) prog_1_method_6_code (3 : Nat) (Option.some FieldType.int)) ∈ z_ws := z_wt 662 (by decide +kernel) rfl
theorem zw_663 : (methodLink "Tidewater" (86 : Nat) ({ cls := "Tidewater$Network", name := "putForeign", desc := "(II)I" } : Jvm.MethodName)) ∈ z_ws := z_wt 663 (by decide +kernel) rfl
theorem zw_664 : (instanceMethod ({ cls := "Tidewater$Network", name := "putForeign", desc := "(II)I" } : Jvm.MethodName)) ∈ z_ws := z_wt 664 (by decide +kernel) rfl
theorem zw_665 : (selects "Tidewater$Network" ({ cls := "Tidewater$Network", name := "putForeign", desc := "(II)I" } : Jvm.MethodName) ({ cls := "Tidewater$Network", name := "putForeign", desc := "(II)I" } : Jvm.MethodName)) ∈ z_ws := z_wt 665 (by decide +kernel) rfl
theorem zw_666 : (code ({ cls := "Tidewater$Network", name := "putForeign", desc := "(II)I" } : Jvm.MethodName) prog_7_method_5_code (5 : Nat) (Option.some FieldType.int)) ∈ z_ws := z_wt 666 (by decide +kernel) rfl
theorem zw_667 : (methodLink "Tidewater$Network" (40 : Nat) ({ cls := "Tidewater$Network", name := "laneOf", desc := "(I)LTidewater$Lane;" } : Jvm.MethodName)) ∈ z_ws := z_wt 667 (by decide +kernel) rfl
theorem zw_668 : (methodLink "Tidewater$Network" (87 : Nat) ({ cls := "Tidewater$Lane", name := "hasRoom", desc := "()Z" } : Jvm.MethodName)) ∈ z_ws := z_wt 668 (by decide +kernel) rfl
theorem zw_669 : (instanceMethod ({ cls := "Tidewater$Lane", name := "hasRoom", desc := "()Z" } : Jvm.MethodName)) ∈ z_ws := z_wt 669 (by decide +kernel) rfl
theorem zw_670 : (selects "Tidewater$Lane" ({ cls := "Tidewater$Lane", name := "hasRoom", desc := "()Z" } : Jvm.MethodName) ({ cls := "Tidewater$Lane", name := "hasRoom", desc := "()Z" } : Jvm.MethodName)) ∈ z_ws := z_wt 670 (by decide +kernel) rfl
theorem zw_671 : (code ({ cls := "Tidewater$Lane", name := "hasRoom", desc := "()Z" } : Jvm.MethodName) prog_5_method_4_code (1 : Nat) (Option.some FieldType.boolean)) ∈ z_ws := z_wt 671 (by decide +kernel) rfl
theorem zw_672 : (methodLink "Tidewater$Network" (71 : Nat) ({ cls := "Tidewater$Lane", name := "append", desc := "(LTidewater$Message;)V" } : Jvm.MethodName)) ∈ z_ws := z_wt 672 (by decide +kernel) rfl
theorem zw_673 : (instanceMethod ({ cls := "Tidewater$Lane", name := "append", desc := "(LTidewater$Message;)V" } : Jvm.MethodName)) ∈ z_ws := z_wt 673 (by decide +kernel) rfl
theorem zw_674 : (selects "Tidewater$Lane" ({ cls := "Tidewater$Lane", name := "append", desc := "(LTidewater$Message;)V" } : Jvm.MethodName) ({ cls := "Tidewater$Lane", name := "append", desc := "(LTidewater$Message;)V" } : Jvm.MethodName)) ∈ z_ws := z_wt 674 (by decide +kernel) rfl
theorem zw_675 : (code ({ cls := "Tidewater$Lane", name := "append", desc := "(LTidewater$Message;)V" } : Jvm.MethodName) prog_5_method_5_code (2 : Nat) (Option.none : Option FieldType)) ∈ z_ws := z_wt 675 (by decide +kernel) rfl
theorem zw_676 : (methodLink "TidewaterLaw" (120 : Nat) ({ cls := "TidewaterLaw", name := "read", desc := "(LTidewater;II[J)I" } : Jvm.MethodName)) ∈ z_ws := z_wt 676 (by decide +kernel) rfl
theorem zw_677 : (static ({ cls := "TidewaterLaw", name := "read", desc := "(LTidewater;II[J)I" } : Jvm.MethodName)) ∈ z_ws := z_wt 677 (by decide +kernel) rfl
theorem zw_678 : (codeWith ({ cls := "TidewaterLaw", name := "read", desc := "(LTidewater;II[J)I" } : Jvm.MethodName) method_8_code (5 : Nat) (Option.some FieldType.int) [((0 : Nat), (10 : Nat), (13 : Nat), (13 : Nat)), ((0 : Nat), (10 : Nat), (17 : Nat), (15 : Nat))]) ∈ z_ws := z_wt 678 (by decide +kernel) rfl
theorem zw_679 : (methodLink "TidewaterLaw" (33 : Nat) ({ cls := "Tidewater", name := "read", desc := "(II)I" } : Jvm.MethodName)) ∈ z_ws := z_wt 679 (by decide +kernel) rfl
theorem zw_680 : (instanceMethod ({ cls := "Tidewater", name := "read", desc := "(II)I" } : Jvm.MethodName)) ∈ z_ws := z_wt 680 (by decide +kernel) rfl
theorem zw_681 : (selects "Tidewater" ({ cls := "Tidewater", name := "read", desc := "(II)I" } : Jvm.MethodName) ({ cls := "Tidewater", name := "read", desc := "(II)I" } : Jvm.MethodName)) ∈ z_ws := z_wt 681 (by decide +kernel) rfl
theorem zw_682 : (code ({ cls := "Tidewater", name := "read", desc := "(II)I" } : Jvm.MethodName) prog_1_method_8_code (3 : Nat) (Option.some FieldType.int)) ∈ z_ws := z_wt 682 (by decide +kernel) rfl
theorem zw_683 : (methodLink "Tidewater" (93 : Nat) ({ cls := "Tidewater", name := "requireStream", desc := "(I)V" } : Jvm.MethodName)) ∈ z_ws := z_wt 683 (by decide +kernel) rfl
theorem zw_684 : (static ({ cls := "Tidewater", name := "requireStream", desc := "(I)V" } : Jvm.MethodName)) ∈ z_ws := z_wt 684 (by decide +kernel) rfl
theorem zw_685 : (code ({ cls := "Tidewater", name := "requireStream", desc := "(I)V" } : Jvm.MethodName) prog_1_method_30_code (1 : Nat) (Option.none : Option FieldType)) ∈ z_ws := z_wt 685 (by decide +kernel) rfl
theorem zw_687 : (methodLink "Tidewater" (96 : Nat) ({ cls := "Tidewater$Server", name := "readBytes", desc := "(LTidewater$Stream;I)I" } : Jvm.MethodName)) ∈ z_ws := z_wt 687 (by decide +kernel) rfl
theorem zw_688 : (instanceMethod ({ cls := "Tidewater$Server", name := "readBytes", desc := "(LTidewater$Stream;I)I" } : Jvm.MethodName)) ∈ z_ws := z_wt 688 (by decide +kernel) rfl
theorem zw_689 : (selects "Tidewater$Server" ({ cls := "Tidewater$Server", name := "readBytes", desc := "(LTidewater$Stream;I)I" } : Jvm.MethodName) ({ cls := "Tidewater$Server", name := "readBytes", desc := "(LTidewater$Stream;I)I" } : Jvm.MethodName)) ∈ z_ws := z_wt 689 (by decide +kernel) rfl
theorem zw_690 : (code ({ cls := "Tidewater$Server", name := "readBytes", desc := "(LTidewater$Stream;I)I" } : Jvm.MethodName) prog_10_method_2_code (4 : Nat) (Option.some FieldType.int)) ∈ z_ws := z_wt 690 (by decide +kernel) rfl
theorem zw_691 : (methodLink "Tidewater$Server" (50 : Nat) ({ cls := "java/lang/Math", name := "min", desc := "(II)I" } : Jvm.MethodName)) ∈ z_ws := z_wt 691 (by decide +kernel) rfl
theorem zw_692 : (static ({ cls := "java/lang/Math", name := "min", desc := "(II)I" } : Jvm.MethodName)) ∈ z_ws := z_wt 692 (by decide +kernel) rfl
theorem zw_693 : (code ({ cls := "java/lang/Math", name := "min", desc := "(II)I" } : Jvm.MethodName) prog_19_method_69_code (2 : Nat) (Option.some FieldType.int)) ∈ z_ws := z_wt 693 (by decide +kernel) rfl
theorem zw_694 : (methodLink "Tidewater$Server" (56 : Nat) ({ cls := "java/lang/Math", name := "max", desc := "(II)I" } : Jvm.MethodName)) ∈ z_ws := z_wt 694 (by decide +kernel) rfl
theorem zw_695 : (methodLink "Tidewater$Server" (59 : Nat) ({ cls := "Tidewater$Server", name := "acknowledge", desc := "()V" } : Jvm.MethodName)) ∈ z_ws := z_wt 695 (by decide +kernel) rfl
theorem zw_697 : (instanceMethod ({ cls := "Tidewater$Server", name := "acknowledge", desc := "()V" } : Jvm.MethodName)) ∈ z_ws := z_wt 697 (by decide +kernel) rfl
theorem zw_698 : (code ({ cls := "Tidewater$Server", name := "acknowledge", desc := "()V" } : Jvm.MethodName) prog_10_method_12_code (2 : Nat) (Option.none : Option FieldType)) ∈ z_ws := z_wt 698 (by decide +kernel) rfl
theorem zw_699 : (classLink "Tidewater$Server" (99 : Nat) "Tidewater$Message") ∈ z_ws := z_wt 699 (by decide +kernel) rfl
theorem zw_700 : (methodLink "Tidewater$Server" (118 : Nat) ({ cls := "Tidewater$Message", name := "<init>", desc := "(I)V" } : Jvm.MethodName)) ∈ z_ws := z_wt 700 (by decide +kernel) rfl
theorem zw_701 : (methodLink "Tidewater$Server" (184 : Nat) ({ cls := "Tidewater$Server", name := "makeAck", desc := "()LTidewater$Ack;" } : Jvm.MethodName)) ∈ z_ws := z_wt 701 (by decide +kernel) rfl
theorem zw_703 : (instanceMethod ({ cls := "Tidewater$Server", name := "makeAck", desc := "()LTidewater$Ack;" } : Jvm.MethodName)) ∈ z_ws := z_wt 703 (by decide +kernel) rfl
theorem zw_704 : (code ({ cls := "Tidewater$Server", name := "makeAck", desc := "()LTidewater$Ack;" } : Jvm.MethodName) prog_10_method_13_code (5 : Nat) (Option.some (FieldType.object "Tidewater$Ack"))) ∈ z_ws := z_wt 704 (by decide +kernel) rfl
theorem zw_705 : (classLink "Tidewater$Server" (192 : Nat) "Tidewater$Ack") ∈ z_ws := z_wt 705 (by decide +kernel) rfl
theorem zw_706 : (instantiable "Tidewater$Ack" (6 : Nat)) ∈ z_ws := z_wt 706 (by decide +kernel) rfl
theorem zw_707 : (methodLinkNest "Tidewater$Server" (194 : Nat) ({ cls := "Tidewater$Ack", name := "<init>", desc := "()V" } : Jvm.MethodName) "Tidewater") ∈ z_ws := z_wt 707 (by decide +kernel) rfl
theorem zw_708 : (instanceMethod ({ cls := "Tidewater$Ack", name := "<init>", desc := "()V" } : Jvm.MethodName)) ∈ z_ws := z_wt 708 (by decide +kernel) rfl
theorem zw_709 : (code ({ cls := "Tidewater$Ack", name := "<init>", desc := "()V" } : Jvm.MethodName) prog_2_method_1_code (1 : Nat) (Option.none : Option FieldType)) ∈ z_ws := z_wt 709 (by decide +kernel) rfl
theorem zw_710 : (methodLink "Tidewater$Ack" (3 : Nat) ({ cls := "java/lang/Object", name := "<init>", desc := "()V" } : Jvm.MethodName)) ∈ z_ws := z_wt 710 (by decide +kernel) rfl
theorem zw_711 : (fieldLink "Tidewater$Ack" (9 : Nat) "Tidewater$Ack" "lows" "[I") ∈ z_ws := z_wt 711 (by decide +kernel) rfl
theorem zw_712 : (fieldLink "Tidewater$Client" (199 : Nat) "Tidewater$Ack" "lows" "[I") ∈ z_ws := z_wt 712 (by decide +kernel) rfl
theorem zw_713 : (fieldLink "Tidewater$Ack" (15 : Nat) "Tidewater$Ack" "highs" "[I") ∈ z_ws := z_wt 713 (by decide +kernel) rfl
theorem zw_714 : (fieldLink "Tidewater$Client" (203 : Nat) "Tidewater$Ack" "highs" "[I") ∈ z_ws := z_wt 714 (by decide +kernel) rfl
theorem zw_715 : (fieldLink "Tidewater$Ack" (18 : Nat) "Tidewater$Ack" "credits" "[I") ∈ z_ws := z_wt 715 (by decide +kernel) rfl
theorem zw_716 : (fieldLink "Tidewater$Server" (205 : Nat) "Tidewater$Ack" "credits" "[I") ∈ z_ws := z_wt 716 (by decide +kernel) rfl
theorem zw_717 : (fieldLink "Tidewater$Client" (275 : Nat) "Tidewater$Ack" "credits" "[I") ∈ z_ws := z_wt 717 (by decide +kernel) rfl
theorem zw_718 : (fieldLink "Tidewater$Ack" (21 : Nat) "Tidewater$Ack" "ranges" "I") ∈ z_ws := z_wt 718 (by decide +kernel) rfl
theorem zw_719 : (fieldLink "Tidewater$Client" (190 : Nat) "Tidewater$Ack" "ranges" "I") ∈ z_ws := z_wt 719 (by decide +kernel) rfl
theorem zw_720 : (fieldLink "Tidewater$Server" (202 : Nat) "Tidewater$Ack" "marked" "I") ∈ z_ws := z_wt 720 (by decide +kernel) rfl
theorem zw_721 : (fieldLink "Tidewater$Client" (209 : Nat) "Tidewater$Ack" "marked" "I") ∈ z_ws := z_wt 721 (by decide +kernel) rfl
theorem zw_722 : (fieldLink "Tidewater$Server" (209 : Nat) "Tidewater$Ack" "creditOfAll" "I") ∈ z_ws := z_wt 722 (by decide +kernel) rfl
theorem zw_723 : (fieldLink "Tidewater$Client" (278 : Nat) "Tidewater$Ack" "creditOfAll" "I") ∈ z_ws := z_wt 723 (by decide +kernel) rfl
theorem zw_737 : (methodLink "Tidewater$Server" (195 : Nat) ({ cls := "Tidewater$Server", name := "nextTaken", desc := "(IZ)I" } : Jvm.MethodName)) ∈ z_ws := z_wt 737 (by decide +kernel) rfl
theorem zw_739 : (instanceMethod ({ cls := "Tidewater$Server", name := "nextTaken", desc := "(IZ)I" } : Jvm.MethodName)) ∈ z_ws := z_wt 739 (by decide +kernel) rfl
theorem zw_740 : (code ({ cls := "Tidewater$Server", name := "nextTaken", desc := "(IZ)I" } : Jvm.MethodName) prog_10_method_14_code (4 : Nat) (Option.some FieldType.int)) ∈ z_ws := z_wt 740 (by decide +kernel) rfl
theorem zw_741 : (methodLink "Tidewater$Server" (199 : Nat) ({ cls := "Tidewater$Ack", name := "addRange", desc := "(II)V" } : Jvm.MethodName)) ∈ z_ws := z_wt 741 (by decide +kernel) rfl
theorem zw_742 : (instanceMethod ({ cls := "Tidewater$Ack", name := "addRange", desc := "(II)V" } : Jvm.MethodName)) ∈ z_ws := z_wt 742 (by decide +kernel) rfl
theorem zw_743 : (selects "Tidewater$Ack" ({ cls := "Tidewater$Ack", name := "addRange", desc := "(II)V" } : Jvm.MethodName) ({ cls := "Tidewater$Ack", name := "addRange", desc := "(II)V" } : Jvm.MethodName)) ∈ z_ws := z_wt 743 (by decide +kernel) rfl
theorem zw_744 : (code ({ cls := "Tidewater$Ack", name := "addRange", desc := "(II)V" } : Jvm.MethodName) prog_2_method_2_code (3 : Nat) (Option.none : Option FieldType)) ∈ z_ws := z_wt 744 (by decide +kernel) rfl
theorem zw_745 : (methodLink "Tidewater$Server" (121 : Nat) ({ cls := "Tidewater$Network", name := "putToClient", desc := "(ILTidewater$Message;)V" } : Jvm.MethodName)) ∈ z_ws := z_wt 745 (by decide +kernel) rfl
theorem zw_746 : (instanceMethod ({ cls := "Tidewater$Network", name := "putToClient", desc := "(ILTidewater$Message;)V" } : Jvm.MethodName)) ∈ z_ws := z_wt 746 (by decide +kernel) rfl
theorem zw_747 : (selects "Tidewater$Network" ({ cls := "Tidewater$Network", name := "putToClient", desc := "(ILTidewater$Message;)V" } : Jvm.MethodName) ({ cls := "Tidewater$Network", name := "putToClient", desc := "(ILTidewater$Message;)V" } : Jvm.MethodName)) ∈ z_ws := z_wt 747 (by decide +kernel) rfl
theorem zw_748 : (code ({ cls := "Tidewater$Network", name := "putToClient", desc := "(ILTidewater$Message;)V" } : Jvm.MethodName) prog_7_method_4_code (4 : Nat) (Option.none : Option FieldType)) ∈ z_ws := z_wt 748 (by decide +kernel) rfl
theorem zw_749 : (methodLink "Tidewater$Network" (75 : Nat) ({ cls := "Tidewater$Lane", name := "letsToClient", desc := "()Z" } : Jvm.MethodName)) ∈ z_ws := z_wt 749 (by decide +kernel) rfl
theorem zw_750 : (instanceMethod ({ cls := "Tidewater$Lane", name := "letsToClient", desc := "()Z" } : Jvm.MethodName)) ∈ z_ws := z_wt 750 (by decide +kernel) rfl
theorem zw_751 : (selects "Tidewater$Lane" ({ cls := "Tidewater$Lane", name := "letsToClient", desc := "()Z" } : Jvm.MethodName) ({ cls := "Tidewater$Lane", name := "letsToClient", desc := "()Z" } : Jvm.MethodName)) ∈ z_ws := z_wt 751 (by decide +kernel) rfl
theorem zw_752 : (code ({ cls := "Tidewater$Lane", name := "letsToClient", desc := "()Z" } : Jvm.MethodName) prog_5_method_3_code (1 : Nat) (Option.some FieldType.boolean)) ∈ z_ws := z_wt 752 (by decide +kernel) rfl
theorem zw_753 : (methodLink "Tidewater$Network" (84 : Nat) ({ cls := "Tidewater$Transit", name := "append", desc := "(LTidewater$Message;I)V" } : Jvm.MethodName)) ∈ z_ws := z_wt 753 (by decide +kernel) rfl
theorem zw_754 : (instanceMethod ({ cls := "Tidewater$Transit", name := "append", desc := "(LTidewater$Message;I)V" } : Jvm.MethodName)) ∈ z_ws := z_wt 754 (by decide +kernel) rfl
theorem zw_755 : (selects "Tidewater$Transit" ({ cls := "Tidewater$Transit", name := "append", desc := "(LTidewater$Message;I)V" } : Jvm.MethodName) ({ cls := "Tidewater$Transit", name := "append", desc := "(LTidewater$Message;I)V" } : Jvm.MethodName)) ∈ z_ws := z_wt 755 (by decide +kernel) rfl
theorem zw_756 : (code ({ cls := "Tidewater$Transit", name := "append", desc := "(LTidewater$Message;I)V" } : Jvm.MethodName) prog_12_method_2_code (3 : Nat) (Option.none : Option FieldType)) ∈ z_ws := z_wt 756 (by decide +kernel) rfl
theorem zw_757 : (methodLink "TidewaterLaw" (127 : Nat) ({ cls := "TidewaterLaw", name := "connect", desc := "(LTidewater;I)I" } : Jvm.MethodName)) ∈ z_ws := z_wt 757 (by decide +kernel) rfl
theorem zw_758 : (static ({ cls := "TidewaterLaw", name := "connect", desc := "(LTidewater;I)I" } : Jvm.MethodName)) ∈ z_ws := z_wt 758 (by decide +kernel) rfl
theorem zw_759 : (codeWith ({ cls := "TidewaterLaw", name := "connect", desc := "(LTidewater;I)I" } : Jvm.MethodName) method_9_code (3 : Nat) (Option.some FieldType.int) [((0 : Nat), (5 : Nat), (8 : Nat), (15 : Nat)), ((0 : Nat), (5 : Nat), (11 : Nat), (40 : Nat))]) ∈ z_ws := z_wt 759 (by decide +kernel) rfl
theorem zw_760 : (classLink "TidewaterLaw" (40 : Nat) "java/lang/IllegalStateException") ∈ z_ws := z_wt 760 (by decide +kernel) rfl
theorem zw_761 : (methodLink "TidewaterLaw" (36 : Nat) ({ cls := "Tidewater", name := "connect", desc := "(I)V" } : Jvm.MethodName)) ∈ z_ws := z_wt 761 (by decide +kernel) rfl
theorem zw_762 : (instanceMethod ({ cls := "Tidewater", name := "connect", desc := "(I)V" } : Jvm.MethodName)) ∈ z_ws := z_wt 762 (by decide +kernel) rfl
theorem zw_763 : (selects "Tidewater" ({ cls := "Tidewater", name := "connect", desc := "(I)V" } : Jvm.MethodName) ({ cls := "Tidewater", name := "connect", desc := "(I)V" } : Jvm.MethodName)) ∈ z_ws := z_wt 763 (by decide +kernel) rfl
theorem zw_764 : (code ({ cls := "Tidewater", name := "connect", desc := "(I)V" } : Jvm.MethodName) prog_1_method_10_code (2 : Nat) (Option.none : Option FieldType)) ∈ z_ws := z_wt 764 (by decide +kernel) rfl
theorem zw_765 : (methodLink "Tidewater" (106 : Nat) ({ cls := "Tidewater", name := "requireState", desc := "(Z)V" } : Jvm.MethodName)) ∈ z_ws := z_wt 765 (by decide +kernel) rfl
theorem zw_766 : (static ({ cls := "Tidewater", name := "requireState", desc := "(Z)V" } : Jvm.MethodName)) ∈ z_ws := z_wt 766 (by decide +kernel) rfl
theorem zw_767 : (code ({ cls := "Tidewater", name := "requireState", desc := "(Z)V" } : Jvm.MethodName) prog_1_method_32_code (1 : Nat) (Option.none : Option FieldType)) ∈ z_ws := z_wt 767 (by decide +kernel) rfl
theorem zw_768 : (classLink "Tidewater" (312 : Nat) "java/lang/IllegalStateException") ∈ z_ws := z_wt 768 (by decide +kernel) rfl
theorem zw_769 : (instantiable "java/lang/IllegalStateException" (6 : Nat)) ∈ z_ws := z_wt 769 (by decide +kernel) rfl
theorem zw_770 : (castable "java/lang/IllegalStateException" "java/lang/IllegalStateException") ∈ z_ws := z_wt 770 (by decide +kernel) rfl
theorem zw_771 : (selects "java/lang/IllegalStateException" ({ cls := "java/lang/Throwable", name := "fillInStackTrace", desc := "(I)Ljava/lang/Throwable;" } : Jvm.MethodName) ({ cls := "java/lang/Throwable", name := "fillInStackTrace", desc := "(I)Ljava/lang/Throwable;" } : Jvm.MethodName)) ∈ z_ws := z_wt 771 (by decide +kernel) rfl
theorem zw_778 : (methodLink "Tidewater" (316 : Nat) ({ cls := "java/lang/IllegalStateException", name := "<init>", desc := "(Ljava/lang/String;)V" } : Jvm.MethodName)) ∈ z_ws := z_wt 778 (by decide +kernel) rfl
theorem zw_779 : (instanceMethod ({ cls := "java/lang/IllegalStateException", name := "<init>", desc := "(Ljava/lang/String;)V" } : Jvm.MethodName)) ∈ z_ws := z_wt 779 (by decide +kernel) rfl
theorem zw_780 : (code ({ cls := "java/lang/IllegalStateException", name := "<init>", desc := "(Ljava/lang/String;)V" } : Jvm.MethodName) prog_17_method_2_code (2 : Nat) (Option.none : Option FieldType)) ∈ z_ws := z_wt 780 (by decide +kernel) rfl
theorem zw_781 : (methodLink "java/lang/IllegalStateException" (7 : Nat) ({ cls := "java/lang/RuntimeException", name := "<init>", desc := "(Ljava/lang/String;)V" } : Jvm.MethodName)) ∈ z_ws := z_wt 781 (by decide +kernel) rfl
theorem zw_784 : (methodLink "Tidewater" (110 : Nat) ({ cls := "Tidewater$Client", name := "beginHello", desc := "(I)V" } : Jvm.MethodName)) ∈ z_ws := z_wt 784 (by decide +kernel) rfl
theorem zw_785 : (instanceMethod ({ cls := "Tidewater$Client", name := "beginHello", desc := "(I)V" } : Jvm.MethodName)) ∈ z_ws := z_wt 785 (by decide +kernel) rfl
theorem zw_786 : (selects "Tidewater$Client" ({ cls := "Tidewater$Client", name := "beginHello", desc := "(I)V" } : Jvm.MethodName) ({ cls := "Tidewater$Client", name := "beginHello", desc := "(I)V" } : Jvm.MethodName)) ∈ z_ws := z_wt 786 (by decide +kernel) rfl
theorem zw_787 : (code ({ cls := "Tidewater$Client", name := "beginHello", desc := "(I)V" } : Jvm.MethodName) prog_3_method_4_code (2 : Nat) (Option.none : Option FieldType)) ∈ z_ws := z_wt 787 (by decide +kernel) rfl
theorem zw_788 : (methodLink "Tidewater$Client" (56 : Nat) ({ cls := "Tidewater$Client", name := "sayHello", desc := "()V" } : Jvm.MethodName)) ∈ z_ws := z_wt 788 (by decide +kernel) rfl
theorem zw_790 : (instanceMethod ({ cls := "Tidewater$Client", name := "sayHello", desc := "()V" } : Jvm.MethodName)) ∈ z_ws := z_wt 790 (by decide +kernel) rfl
theorem zw_791 : (code ({ cls := "Tidewater$Client", name := "sayHello", desc := "()V" } : Jvm.MethodName) prog_3_method_5_code (2 : Nat) (Option.none : Option FieldType)) ∈ z_ws := z_wt 791 (by decide +kernel) rfl
theorem zw_792 : (classLink "Tidewater$Client" (70 : Nat) "Tidewater$Message") ∈ z_ws := z_wt 792 (by decide +kernel) rfl
theorem zw_793 : (methodLink "Tidewater$Client" (72 : Nat) ({ cls := "Tidewater$Message", name := "<init>", desc := "(I)V" } : Jvm.MethodName)) ∈ z_ws := z_wt 793 (by decide +kernel) rfl
theorem zw_794 : (methodLink "Tidewater$Client" (79 : Nat) ({ cls := "Tidewater$Network", name := "putToServer", desc := "(ILTidewater$Message;)V" } : Jvm.MethodName)) ∈ z_ws := z_wt 794 (by decide +kernel) rfl
theorem zw_795 : (instanceMethod ({ cls := "Tidewater$Network", name := "putToServer", desc := "(ILTidewater$Message;)V" } : Jvm.MethodName)) ∈ z_ws := z_wt 795 (by decide +kernel) rfl
theorem zw_796 : (selects "Tidewater$Network" ({ cls := "Tidewater$Network", name := "putToServer", desc := "(ILTidewater$Message;)V" } : Jvm.MethodName) ({ cls := "Tidewater$Network", name := "putToServer", desc := "(ILTidewater$Message;)V" } : Jvm.MethodName)) ∈ z_ws := z_wt 796 (by decide +kernel) rfl
theorem zw_797 : (code ({ cls := "Tidewater$Network", name := "putToServer", desc := "(ILTidewater$Message;)V" } : Jvm.MethodName) prog_7_method_3_code (5 : Nat) (Option.none : Option FieldType)) ∈ z_ws := z_wt 797 (by decide +kernel) rfl
theorem zw_798 : (methodLink "Tidewater$Network" (48 : Nat) ({ cls := "Tidewater$Lane", name := "letsToServer", desc := "()Z" } : Jvm.MethodName)) ∈ z_ws := z_wt 798 (by decide +kernel) rfl
theorem zw_799 : (instanceMethod ({ cls := "Tidewater$Lane", name := "letsToServer", desc := "()Z" } : Jvm.MethodName)) ∈ z_ws := z_wt 799 (by decide +kernel) rfl
theorem zw_800 : (selects "Tidewater$Lane" ({ cls := "Tidewater$Lane", name := "letsToServer", desc := "()Z" } : Jvm.MethodName) ({ cls := "Tidewater$Lane", name := "letsToServer", desc := "()Z" } : Jvm.MethodName)) ∈ z_ws := z_wt 800 (by decide +kernel) rfl
theorem zw_801 : (code ({ cls := "Tidewater$Lane", name := "letsToServer", desc := "()Z" } : Jvm.MethodName) prog_5_method_2_code (1 : Nat) (Option.some FieldType.boolean)) ∈ z_ws := z_wt 801 (by decide +kernel) rfl
theorem zw_802 : (methodLink "Tidewater$Lane" (37 : Nat) ({ cls := "Tidewater$Lane", name := "hasRoom", desc := "()Z" } : Jvm.MethodName)) ∈ z_ws := z_wt 802 (by decide +kernel) rfl
theorem zw_803 : (methodLink "TidewaterLaw" (131 : Nat) ({ cls := "TidewaterLaw", name := "write", desc := "(LTidewater;II[J)I" } : Jvm.MethodName)) ∈ z_ws := z_wt 803 (by decide +kernel) rfl
theorem zw_804 : (static ({ cls := "TidewaterLaw", name := "write", desc := "(LTidewater;II[J)I" } : Jvm.MethodName)) ∈ z_ws := z_wt 804 (by decide +kernel) rfl
theorem zw_805 : (codeWith ({ cls := "TidewaterLaw", name := "write", desc := "(LTidewater;II[J)I" } : Jvm.MethodName) method_10_code (5 : Nat) (Option.some FieldType.int) [((0 : Nat), (10 : Nat), (13 : Nat), (13 : Nat)), ((0 : Nat), (10 : Nat), (17 : Nat), (15 : Nat)), ((0 : Nat), (10 : Nat), (21 : Nat), (40 : Nat))]) ∈ z_ws := z_wt 805 (by decide +kernel) rfl
theorem zw_806 : (methodLink "TidewaterLaw" (42 : Nat) ({ cls := "Tidewater", name := "write", desc := "(II)I" } : Jvm.MethodName)) ∈ z_ws := z_wt 806 (by decide +kernel) rfl
theorem zw_807 : (instanceMethod ({ cls := "Tidewater", name := "write", desc := "(II)I" } : Jvm.MethodName)) ∈ z_ws := z_wt 807 (by decide +kernel) rfl
theorem zw_808 : (selects "Tidewater" ({ cls := "Tidewater", name := "write", desc := "(II)I" } : Jvm.MethodName) ({ cls := "Tidewater", name := "write", desc := "(II)I" } : Jvm.MethodName)) ∈ z_ws := z_wt 808 (by decide +kernel) rfl
theorem zw_809 : (code ({ cls := "Tidewater", name := "write", desc := "(II)I" } : Jvm.MethodName) prog_1_method_11_code (4 : Nat) (Option.some FieldType.int)) ∈ z_ws := z_wt 809 (by decide +kernel) rfl
theorem zw_810 : (methodLink "TidewaterLaw" (134 : Nat) ({ cls := "TidewaterLaw", name := "setWay", desc := "(LTidewater;II[J)I" } : Jvm.MethodName)) ∈ z_ws := z_wt 810 (by decide +kernel) rfl
theorem zw_811 : (static ({ cls := "TidewaterLaw", name := "setWay", desc := "(LTidewater;II[J)I" } : Jvm.MethodName)) ∈ z_ws := z_wt 811 (by decide +kernel) rfl
theorem zw_812 : (codeWith ({ cls := "TidewaterLaw", name := "setWay", desc := "(LTidewater;II[J)I" } : Jvm.MethodName) method_11_code (5 : Nat) (Option.some FieldType.int) [((0 : Nat), (10 : Nat), (13 : Nat), (13 : Nat)), ((0 : Nat), (10 : Nat), (17 : Nat), (15 : Nat))]) ∈ z_ws := z_wt 812 (by decide +kernel) rfl
theorem zw_813 : (methodLink "TidewaterLaw" (45 : Nat) ({ cls := "Tidewater", name := "setWay", desc := "(II)I" } : Jvm.MethodName)) ∈ z_ws := z_wt 813 (by decide +kernel) rfl
theorem zw_814 : (instanceMethod ({ cls := "Tidewater", name := "setWay", desc := "(II)I" } : Jvm.MethodName)) ∈ z_ws := z_wt 814 (by decide +kernel) rfl
theorem zw_815 : (selects "Tidewater" ({ cls := "Tidewater", name := "setWay", desc := "(II)I" } : Jvm.MethodName) ({ cls := "Tidewater", name := "setWay", desc := "(II)I" } : Jvm.MethodName)) ∈ z_ws := z_wt 815 (by decide +kernel) rfl
theorem zw_816 : (code ({ cls := "Tidewater", name := "setWay", desc := "(II)I" } : Jvm.MethodName) prog_1_method_12_code (5 : Nat) (Option.some FieldType.int)) ∈ z_ws := z_wt 816 (by decide +kernel) rfl
theorem zw_817 : (methodLink "Tidewater" (116 : Nat) ({ cls := "Tidewater$Client", name := "routeOf", desc := "(I)LTidewater$Route;" } : Jvm.MethodName)) ∈ z_ws := z_wt 817 (by decide +kernel) rfl
theorem zw_818 : (instanceMethod ({ cls := "Tidewater$Client", name := "routeOf", desc := "(I)LTidewater$Route;" } : Jvm.MethodName)) ∈ z_ws := z_wt 818 (by decide +kernel) rfl
theorem zw_819 : (selects "Tidewater$Client" ({ cls := "Tidewater$Client", name := "routeOf", desc := "(I)LTidewater$Route;" } : Jvm.MethodName) ({ cls := "Tidewater$Client", name := "routeOf", desc := "(I)LTidewater$Route;" } : Jvm.MethodName)) ∈ z_ws := z_wt 819 (by decide +kernel) rfl
theorem zw_820 : (code ({ cls := "Tidewater$Client", name := "routeOf", desc := "(I)LTidewater$Route;" } : Jvm.MethodName) prog_3_method_2_code (2 : Nat) (Option.some (FieldType.object "Tidewater$Route"))) ∈ z_ws := z_wt 820 (by decide +kernel) rfl
theorem zw_821 : (methodLink "TidewaterLaw" (137 : Nat) ({ cls := "TidewaterLaw", name := "check", desc := "(LTidewater;I)I" } : Jvm.MethodName)) ∈ z_ws := z_wt 821 (by decide +kernel) rfl
theorem zw_822 : (static ({ cls := "TidewaterLaw", name := "check", desc := "(LTidewater;I)I" } : Jvm.MethodName)) ∈ z_ws := z_wt 822 (by decide +kernel) rfl
theorem zw_823 : (codeWith ({ cls := "TidewaterLaw", name := "check", desc := "(LTidewater;I)I" } : Jvm.MethodName) method_12_code (3 : Nat) (Option.some FieldType.int) [((0 : Nat), (5 : Nat), (8 : Nat), (13 : Nat)), ((0 : Nat), (5 : Nat), (11 : Nat), (40 : Nat))]) ∈ z_ws := z_wt 823 (by decide +kernel) rfl
theorem zw_824 : (methodLink "TidewaterLaw" (48 : Nat) ({ cls := "Tidewater", name := "check", desc := "(I)V" } : Jvm.MethodName)) ∈ z_ws := z_wt 824 (by decide +kernel) rfl
theorem zw_825 : (instanceMethod ({ cls := "Tidewater", name := "check", desc := "(I)V" } : Jvm.MethodName)) ∈ z_ws := z_wt 825 (by decide +kernel) rfl
theorem zw_826 : (selects "Tidewater" ({ cls := "Tidewater", name := "check", desc := "(I)V" } : Jvm.MethodName) ({ cls := "Tidewater", name := "check", desc := "(I)V" } : Jvm.MethodName)) ∈ z_ws := z_wt 826 (by decide +kernel) rfl
theorem zw_827 : (code ({ cls := "Tidewater", name := "check", desc := "(I)V" } : Jvm.MethodName) prog_1_method_13_code (2 : Nat) (Option.none : Option FieldType)) ∈ z_ws := z_wt 827 (by decide +kernel) rfl
theorem zw_828 : (classLink "Tidewater" (131 : Nat) "Tidewater$Message") ∈ z_ws := z_wt 828 (by decide +kernel) rfl
theorem zw_829 : (methodLink "Tidewater" (133 : Nat) ({ cls := "Tidewater$Message", name := "<init>", desc := "(I)V" } : Jvm.MethodName)) ∈ z_ws := z_wt 829 (by decide +kernel) rfl
theorem zw_830 : (methodLink "Tidewater" (135 : Nat) ({ cls := "Tidewater$Network", name := "putToServer", desc := "(ILTidewater$Message;)V" } : Jvm.MethodName)) ∈ z_ws := z_wt 830 (by decide +kernel) rfl
theorem zw_831 : (methodLink "TidewaterLaw" (140 : Nat) ({ cls := "TidewaterLaw", name := "use", desc := "(LTidewater;I[J)I" } : Jvm.MethodName)) ∈ z_ws := z_wt 831 (by decide +kernel) rfl
theorem zw_832 : (static ({ cls := "TidewaterLaw", name := "use", desc := "(LTidewater;I[J)I" } : Jvm.MethodName)) ∈ z_ws := z_wt 832 (by decide +kernel) rfl
theorem zw_833 : (codeWith ({ cls := "TidewaterLaw", name := "use", desc := "(LTidewater;I[J)I" } : Jvm.MethodName) method_13_code (4 : Nat) (Option.some FieldType.int) [((0 : Nat), (9 : Nat), (12 : Nat), (15 : Nat)), ((0 : Nat), (9 : Nat), (15 : Nat), (40 : Nat))]) ∈ z_ws := z_wt 833 (by decide +kernel) rfl
theorem zw_834 : (methodLink "TidewaterLaw" (51 : Nat) ({ cls := "Tidewater", name := "use", desc := "(I)I" } : Jvm.MethodName)) ∈ z_ws := z_wt 834 (by decide +kernel) rfl
theorem zw_835 : (instanceMethod ({ cls := "Tidewater", name := "use", desc := "(I)I" } : Jvm.MethodName)) ∈ z_ws := z_wt 835 (by decide +kernel) rfl
theorem zw_836 : (selects "Tidewater" ({ cls := "Tidewater", name := "use", desc := "(I)I" } : Jvm.MethodName) ({ cls := "Tidewater", name := "use", desc := "(I)I" } : Jvm.MethodName)) ∈ z_ws := z_wt 836 (by decide +kernel) rfl
theorem zw_837 : (code ({ cls := "Tidewater", name := "use", desc := "(I)I" } : Jvm.MethodName) prog_1_method_14_code (3 : Nat) (Option.some FieldType.int)) ∈ z_ws := z_wt 837 (by decide +kernel) rfl
theorem zw_838 : (methodLink "TidewaterLaw" (144 : Nat) ({ cls := "TidewaterLaw", name := "changeKey", desc := "(LTidewater;[J)I" } : Jvm.MethodName)) ∈ z_ws := z_wt 838 (by decide +kernel) rfl
theorem zw_839 : (static ({ cls := "TidewaterLaw", name := "changeKey", desc := "(LTidewater;[J)I" } : Jvm.MethodName)) ∈ z_ws := z_wt 839 (by decide +kernel) rfl
theorem zw_840 : (codeWith ({ cls := "TidewaterLaw", name := "changeKey", desc := "(LTidewater;[J)I" } : Jvm.MethodName) method_14_code (3 : Nat) (Option.some FieldType.int) [((0 : Nat), (8 : Nat), (11 : Nat), (40 : Nat))]) ∈ z_ws := z_wt 840 (by decide +kernel) rfl
theorem zw_841 : (methodLink "TidewaterLaw" (55 : Nat) ({ cls := "Tidewater", name := "changeKey", desc := "()I" } : Jvm.MethodName)) ∈ z_ws := z_wt 841 (by decide +kernel) rfl
theorem zw_842 : (instanceMethod ({ cls := "Tidewater", name := "changeKey", desc := "()I" } : Jvm.MethodName)) ∈ z_ws := z_wt 842 (by decide +kernel) rfl
theorem zw_843 : (selects "Tidewater" ({ cls := "Tidewater", name := "changeKey", desc := "()I" } : Jvm.MethodName) ({ cls := "Tidewater", name := "changeKey", desc := "()I" } : Jvm.MethodName)) ∈ z_ws := z_wt 843 (by decide +kernel) rfl
theorem zw_844 : (code ({ cls := "Tidewater", name := "changeKey", desc := "()I" } : Jvm.MethodName) prog_1_method_15_code (1 : Nat) (Option.some FieldType.int)) ∈ z_ws := z_wt 844 (by decide +kernel) rfl
theorem zw_845 : (methodLink "Tidewater" (145 : Nat) ({ cls := "Tidewater$Client", name := "canChangeKey", desc := "()Z" } : Jvm.MethodName)) ∈ z_ws := z_wt 845 (by decide +kernel) rfl
theorem zw_846 : (instanceMethod ({ cls := "Tidewater$Client", name := "canChangeKey", desc := "()Z" } : Jvm.MethodName)) ∈ z_ws := z_wt 846 (by decide +kernel) rfl
theorem zw_847 : (selects "Tidewater$Client" ({ cls := "Tidewater$Client", name := "canChangeKey", desc := "()Z" } : Jvm.MethodName) ({ cls := "Tidewater$Client", name := "canChangeKey", desc := "()Z" } : Jvm.MethodName)) ∈ z_ws := z_wt 847 (by decide +kernel) rfl
theorem zw_848 : (code ({ cls := "Tidewater$Client", name := "canChangeKey", desc := "()Z" } : Jvm.MethodName) prog_3_method_6_code (4 : Nat) (Option.some FieldType.boolean)) ∈ z_ws := z_wt 848 (by decide +kernel) rfl
theorem zw_849 : (methodLink "Tidewater$Client" (83 : Nat) ({ cls := "Tidewater$Client", name := "packetAt", desc := "(I)LTidewater$Packet;" } : Jvm.MethodName)) ∈ z_ws := z_wt 849 (by decide +kernel) rfl
theorem zw_850 : (instanceMethod ({ cls := "Tidewater$Client", name := "packetAt", desc := "(I)LTidewater$Packet;" } : Jvm.MethodName)) ∈ z_ws := z_wt 850 (by decide +kernel) rfl
theorem zw_851 : (selects "Tidewater$Client" ({ cls := "Tidewater$Client", name := "packetAt", desc := "(I)LTidewater$Packet;" } : Jvm.MethodName) ({ cls := "Tidewater$Client", name := "packetAt", desc := "(I)LTidewater$Packet;" } : Jvm.MethodName)) ∈ z_ws := z_wt 851 (by decide +kernel) rfl
theorem zw_852 : (code ({ cls := "Tidewater$Client", name := "packetAt", desc := "(I)LTidewater$Packet;" } : Jvm.MethodName) prog_3_method_3_code (2 : Nat) (Option.some (FieldType.object "Tidewater$Packet"))) ∈ z_ws := z_wt 852 (by decide +kernel) rfl
theorem zw_853 : (methodLink "Tidewater$Client" (91 : Nat) ({ cls := "Tidewater$Client", name := "isAcknowledged", desc := "(LTidewater$Packet;)Z" } : Jvm.MethodName)) ∈ z_ws := z_wt 853 (by decide +kernel) rfl
theorem zw_854 : (static ({ cls := "Tidewater$Client", name := "isAcknowledged", desc := "(LTidewater$Packet;)Z" } : Jvm.MethodName)) ∈ z_ws := z_wt 854 (by decide +kernel) rfl
theorem zw_855 : (code ({ cls := "Tidewater$Client", name := "isAcknowledged", desc := "(LTidewater$Packet;)Z" } : Jvm.MethodName) prog_3_method_7_code (1 : Nat) (Option.some FieldType.boolean)) ∈ z_ws := z_wt 855 (by decide +kernel) rfl
theorem zw_856 : (methodLink "TidewaterLaw" (148 : Nat) ({ cls := "TidewaterLaw", name := "close", desc := "(LTidewater;)I" } : Jvm.MethodName)) ∈ z_ws := z_wt 856 (by decide +kernel) rfl
theorem zw_857 : (static ({ cls := "TidewaterLaw", name := "close", desc := "(LTidewater;)I" } : Jvm.MethodName)) ∈ z_ws := z_wt 857 (by decide +kernel) rfl
theorem zw_858 : (codeWith ({ cls := "TidewaterLaw", name := "close", desc := "(LTidewater;)I" } : Jvm.MethodName) method_15_code (2 : Nat) (Option.some FieldType.int) [((0 : Nat), (4 : Nat), (7 : Nat), (40 : Nat))]) ∈ z_ws := z_wt 858 (by decide +kernel) rfl
theorem zw_859 : (methodLink "TidewaterLaw" (59 : Nat) ({ cls := "Tidewater", name := "close", desc := "()V" } : Jvm.MethodName)) ∈ z_ws := z_wt 859 (by decide +kernel) rfl
theorem zw_860 : (instanceMethod ({ cls := "Tidewater", name := "close", desc := "()V" } : Jvm.MethodName)) ∈ z_ws := z_wt 860 (by decide +kernel) rfl
theorem zw_861 : (selects "Tidewater" ({ cls := "Tidewater", name := "close", desc := "()V" } : Jvm.MethodName) ({ cls := "Tidewater", name := "close", desc := "()V" } : Jvm.MethodName)) ∈ z_ws := z_wt 861 (by decide +kernel) rfl
theorem zw_862 : (code ({ cls := "Tidewater", name := "close", desc := "()V" } : Jvm.MethodName) prog_1_method_16_code (1 : Nat) (Option.none : Option FieldType)) ∈ z_ws := z_wt 862 (by decide +kernel) rfl
theorem zw_863 : (methodLink "Tidewater" (152 : Nat) ({ cls := "Tidewater$Client", name := "beginClosing", desc := "()V" } : Jvm.MethodName)) ∈ z_ws := z_wt 863 (by decide +kernel) rfl
theorem zw_864 : (instanceMethod ({ cls := "Tidewater$Client", name := "beginClosing", desc := "()V" } : Jvm.MethodName)) ∈ z_ws := z_wt 864 (by decide +kernel) rfl
theorem zw_865 : (selects "Tidewater$Client" ({ cls := "Tidewater$Client", name := "beginClosing", desc := "()V" } : Jvm.MethodName) ({ cls := "Tidewater$Client", name := "beginClosing", desc := "()V" } : Jvm.MethodName)) ∈ z_ws := z_wt 865 (by decide +kernel) rfl
theorem zw_866 : (code ({ cls := "Tidewater$Client", name := "beginClosing", desc := "()V" } : Jvm.MethodName) prog_3_method_8_code (1 : Nat) (Option.none : Option FieldType)) ∈ z_ws := z_wt 866 (by decide +kernel) rfl
theorem zw_867 : (methodLink "TidewaterLaw" (152 : Nat) ({ cls := "TidewaterLaw", name := "tick", desc := "(LTidewater;I[J)I" } : Jvm.MethodName)) ∈ z_ws := z_wt 867 (by decide +kernel) rfl
theorem zw_868 : (static ({ cls := "TidewaterLaw", name := "tick", desc := "(LTidewater;I[J)I" } : Jvm.MethodName)) ∈ z_ws := z_wt 868 (by decide +kernel) rfl
theorem zw_869 : (codeWith ({ cls := "TidewaterLaw", name := "tick", desc := "(LTidewater;I[J)I" } : Jvm.MethodName) method_16_code (4 : Nat) (Option.some FieldType.int) [((0 : Nat), (9 : Nat), (12 : Nat), (15 : Nat)), ((0 : Nat), (9 : Nat), (15 : Nat), (40 : Nat))]) ∈ z_ws := z_wt 869 (by decide +kernel) rfl
theorem zw_870 : (methodLink "TidewaterLaw" (62 : Nat) ({ cls := "Tidewater", name := "tick", desc := "(I)I" } : Jvm.MethodName)) ∈ z_ws := z_wt 870 (by decide +kernel) rfl
theorem zw_871 : (instanceMethod ({ cls := "Tidewater", name := "tick", desc := "(I)I" } : Jvm.MethodName)) ∈ z_ws := z_wt 871 (by decide +kernel) rfl
theorem zw_872 : (selects "Tidewater" ({ cls := "Tidewater", name := "tick", desc := "(I)I" } : Jvm.MethodName) ({ cls := "Tidewater", name := "tick", desc := "(I)I" } : Jvm.MethodName)) ∈ z_ws := z_wt 872 (by decide +kernel) rfl
theorem zw_873 : (code ({ cls := "Tidewater", name := "tick", desc := "(I)I" } : Jvm.MethodName) prog_1_method_17_code (3 : Nat) (Option.some FieldType.int)) ∈ z_ws := z_wt 873 (by decide +kernel) rfl
theorem zw_874 : (methodLink "Tidewater" (158 : Nat) ({ cls := "Tidewater$Server", name := "hearAll", desc := "()V" } : Jvm.MethodName)) ∈ z_ws := z_wt 874 (by decide +kernel) rfl
theorem zw_875 : (instanceMethod ({ cls := "Tidewater$Server", name := "hearAll", desc := "()V" } : Jvm.MethodName)) ∈ z_ws := z_wt 875 (by decide +kernel) rfl
theorem zw_876 : (selects "Tidewater$Server" ({ cls := "Tidewater$Server", name := "hearAll", desc := "()V" } : Jvm.MethodName) ({ cls := "Tidewater$Server", name := "hearAll", desc := "()V" } : Jvm.MethodName)) ∈ z_ws := z_wt 876 (by decide +kernel) rfl
theorem zw_877 : (code ({ cls := "Tidewater$Server", name := "hearAll", desc := "()V" } : Jvm.MethodName) prog_10_method_4_code (3 : Nat) (Option.none : Option FieldType)) ∈ z_ws := z_wt 877 (by decide +kernel) rfl
theorem zw_878 : (methodLink "Tidewater$Server" (90 : Nat) ({ cls := "Tidewater$Transit", name := "takeDue", desc := "(I)LTidewater$Message;" } : Jvm.MethodName)) ∈ z_ws := z_wt 878 (by decide +kernel) rfl
theorem zw_879 : (instanceMethod ({ cls := "Tidewater$Transit", name := "takeDue", desc := "(I)LTidewater$Message;" } : Jvm.MethodName)) ∈ z_ws := z_wt 879 (by decide +kernel) rfl
theorem zw_880 : (selects "Tidewater$Transit" ({ cls := "Tidewater$Transit", name := "takeDue", desc := "(I)LTidewater$Message;" } : Jvm.MethodName) ({ cls := "Tidewater$Transit", name := "takeDue", desc := "(I)LTidewater$Message;" } : Jvm.MethodName)) ∈ z_ws := z_wt 880 (by decide +kernel) rfl
theorem zw_881 : (code ({ cls := "Tidewater$Transit", name := "takeDue", desc := "(I)LTidewater$Message;" } : Jvm.MethodName) prog_12_method_3_code (4 : Nat) (Option.some (FieldType.object "Tidewater$Message"))) ∈ z_ws := z_wt 881 (by decide +kernel) rfl
theorem zw_882 : (methodLink "Tidewater$Transit" (28 : Nat) ({ cls := "java/lang/System", name := "arraycopy", desc := "(Ljava/lang/Object;ILjava/lang/Object;II)V" } : Jvm.MethodName)) ∈ z_ws := z_wt 882 (by decide +kernel) rfl
theorem zw_883 : (static ({ cls := "java/lang/System", name := "arraycopy", desc := "(Ljava/lang/Object;ILjava/lang/Object;II)V" } : Jvm.MethodName)) ∈ z_ws := z_wt 883 (by decide +kernel) rfl
theorem zw_884 : (native ({ cls := "java/lang/System", name := "arraycopy", desc := "(Ljava/lang/Object;ILjava/lang/Object;II)V" } : Jvm.MethodName)) ∈ z_ws := z_wt 884 (by decide +kernel) rfl
theorem zw_885 : (methodLink "Tidewater$Server" (94 : Nat) ({ cls := "Tidewater$Server", name := "hear", desc := "(LTidewater$Message;)V" } : Jvm.MethodName)) ∈ z_ws := z_wt 885 (by decide +kernel) rfl
theorem zw_887 : (instanceMethod ({ cls := "Tidewater$Server", name := "hear", desc := "(LTidewater$Message;)V" } : Jvm.MethodName)) ∈ z_ws := z_wt 887 (by decide +kernel) rfl
theorem zw_888 : (code ({ cls := "Tidewater$Server", name := "hear", desc := "(LTidewater$Message;)V" } : Jvm.MethodName) prog_10_method_5_code (2 : Nat) (Option.none : Option FieldType)) ∈ z_ws := z_wt 888 (by decide +kernel) rfl
theorem zw_889 : (methodLink "Tidewater$Server" (112 : Nat) ({ cls := "Tidewater$Server", name := "hearHello", desc := "(LTidewater$Message;)V" } : Jvm.MethodName)) ∈ z_ws := z_wt 889 (by decide +kernel) rfl
theorem zw_891 : (instanceMethod ({ cls := "Tidewater$Server", name := "hearHello", desc := "(LTidewater$Message;)V" } : Jvm.MethodName)) ∈ z_ws := z_wt 891 (by decide +kernel) rfl
theorem zw_892 : (code ({ cls := "Tidewater$Server", name := "hearHello", desc := "(LTidewater$Message;)V" } : Jvm.MethodName) prog_10_method_6_code (3 : Nat) (Option.none : Option FieldType)) ∈ z_ws := z_wt 892 (by decide +kernel) rfl
theorem zw_893 : (methodLink "Tidewater$Server" (137 : Nat) ({ cls := "Tidewater$Server", name := "useTicket", desc := "(I)Z" } : Jvm.MethodName)) ∈ z_ws := z_wt 893 (by decide +kernel) rfl
theorem zw_895 : (instanceMethod ({ cls := "Tidewater$Server", name := "useTicket", desc := "(I)Z" } : Jvm.MethodName)) ∈ z_ws := z_wt 895 (by decide +kernel) rfl
theorem zw_896 : (code ({ cls := "Tidewater$Server", name := "useTicket", desc := "(I)Z" } : Jvm.MethodName) prog_10_method_7_code (2 : Nat) (Option.some FieldType.boolean)) ∈ z_ws := z_wt 896 (by decide +kernel) rfl
theorem zw_897 : (methodLink "Tidewater$Server" (125 : Nat) ({ cls := "Tidewater$Server", name := "hearWhenEstablished", desc := "(LTidewater$Message;)V" } : Jvm.MethodName)) ∈ z_ws := z_wt 897 (by decide +kernel) rfl
theorem zw_899 : (instanceMethod ({ cls := "Tidewater$Server", name := "hearWhenEstablished", desc := "(LTidewater$Message;)V" } : Jvm.MethodName)) ∈ z_ws := z_wt 899 (by decide +kernel) rfl
theorem zw_900 : (code ({ cls := "Tidewater$Server", name := "hearWhenEstablished", desc := "(LTidewater$Message;)V" } : Jvm.MethodName) prog_10_method_8_code (2 : Nat) (Option.none : Option FieldType)) ∈ z_ws := z_wt 900 (by decide +kernel) rfl
theorem zw_901 : (methodLink "Tidewater$Server" (142 : Nat) ({ cls := "Tidewater$Server", name := "hearData", desc := "(LTidewater$Packet;)V" } : Jvm.MethodName)) ∈ z_ws := z_wt 901 (by decide +kernel) rfl
theorem zw_903 : (instanceMethod ({ cls := "Tidewater$Server", name := "hearData", desc := "(LTidewater$Packet;)V" } : Jvm.MethodName)) ∈ z_ws := z_wt 903 (by decide +kernel) rfl
theorem zw_904 : (code ({ cls := "Tidewater$Server", name := "hearData", desc := "(LTidewater$Packet;)V" } : Jvm.MethodName) prog_10_method_9_code (5 : Nat) (Option.none : Option FieldType)) ∈ z_ws := z_wt 904 (by decide +kernel) rfl
theorem zw_905 : (methodLink "Tidewater$Server" (155 : Nat) ({ cls := "Tidewater$Server", name := "takesKey", desc := "(I)Z" } : Jvm.MethodName)) ∈ z_ws := z_wt 905 (by decide +kernel) rfl
theorem zw_907 : (instanceMethod ({ cls := "Tidewater$Server", name := "takesKey", desc := "(I)Z" } : Jvm.MethodName)) ∈ z_ws := z_wt 907 (by decide +kernel) rfl
theorem zw_908 : (code ({ cls := "Tidewater$Server", name := "takesKey", desc := "(I)Z" } : Jvm.MethodName) prog_10_method_10_code (2 : Nat) (Option.some FieldType.boolean)) ∈ z_ws := z_wt 908 (by decide +kernel) rfl
theorem zw_909 : (methodLink "Tidewater$Server" (167 : Nat) ({ cls := "Tidewater$Stream", name := "arrive", desc := "(II)V" } : Jvm.MethodName)) ∈ z_ws := z_wt 909 (by decide +kernel) rfl
theorem zw_910 : (instanceMethod ({ cls := "Tidewater$Stream", name := "arrive", desc := "(II)V" } : Jvm.MethodName)) ∈ z_ws := z_wt 910 (by decide +kernel) rfl
theorem zw_911 : (selects "Tidewater$Stream" ({ cls := "Tidewater$Stream", name := "arrive", desc := "(II)V" } : Jvm.MethodName) ({ cls := "Tidewater$Stream", name := "arrive", desc := "(II)V" } : Jvm.MethodName)) ∈ z_ws := z_wt 911 (by decide +kernel) rfl
theorem zw_912 : (code ({ cls := "Tidewater$Stream", name := "arrive", desc := "(II)V" } : Jvm.MethodName) prog_11_method_9_code (3 : Nat) (Option.none : Option FieldType)) ∈ z_ws := z_wt 912 (by decide +kernel) rfl
theorem zw_913 : (methodLinkNest "Tidewater$Stream" (51 : Nat) ({ cls := "Tidewater", name := "markRow", desc := "([ZII)V" } : Jvm.MethodName) "Tidewater") ∈ z_ws := z_wt 913 (by decide +kernel) rfl
theorem zw_914 : (static ({ cls := "Tidewater", name := "markRow", desc := "([ZII)V" } : Jvm.MethodName)) ∈ z_ws := z_wt 914 (by decide +kernel) rfl
theorem zw_915 : (code ({ cls := "Tidewater", name := "markRow", desc := "([ZII)V" } : Jvm.MethodName) prog_1_method_35_code (4 : Nat) (Option.none : Option FieldType)) ∈ z_ws := z_wt 915 (by decide +kernel) rfl
theorem zw_916 : (methodLink "Tidewater" (317 : Nat) ({ cls := "java/lang/Math", name := "max", desc := "(II)I" } : Jvm.MethodName)) ∈ z_ws := z_wt 916 (by decide +kernel) rfl
theorem zw_917 : (methodLinkNest "Tidewater$Stream" (58 : Nat) ({ cls := "Tidewater", name := "lengthOfPrefix", desc := "([ZI)I" } : Jvm.MethodName) "Tidewater") ∈ z_ws := z_wt 917 (by decide +kernel) rfl
theorem zw_918 : (static ({ cls := "Tidewater", name := "lengthOfPrefix", desc := "([ZI)I" } : Jvm.MethodName)) ∈ z_ws := z_wt 918 (by decide +kernel) rfl
theorem zw_919 : (code ({ cls := "Tidewater", name := "lengthOfPrefix", desc := "([ZI)I" } : Jvm.MethodName) prog_1_method_36_code (3 : Nat) (Option.some FieldType.int)) ∈ z_ws := z_wt 919 (by decide +kernel) rfl
theorem zw_920 : (methodLink "Tidewater" (161 : Nat) ({ cls := "Tidewater$Client", name := "hearAll", desc := "()V" } : Jvm.MethodName)) ∈ z_ws := z_wt 920 (by decide +kernel) rfl
theorem zw_921 : (instanceMethod ({ cls := "Tidewater$Client", name := "hearAll", desc := "()V" } : Jvm.MethodName)) ∈ z_ws := z_wt 921 (by decide +kernel) rfl
theorem zw_922 : (selects "Tidewater$Client" ({ cls := "Tidewater$Client", name := "hearAll", desc := "()V" } : Jvm.MethodName) ({ cls := "Tidewater$Client", name := "hearAll", desc := "()V" } : Jvm.MethodName)) ∈ z_ws := z_wt 922 (by decide +kernel) rfl
theorem zw_923 : (code ({ cls := "Tidewater$Client", name := "hearAll", desc := "()V" } : Jvm.MethodName) prog_3_method_9_code (3 : Nat) (Option.none : Option FieldType)) ∈ z_ws := z_wt 923 (by decide +kernel) rfl
theorem zw_924 : (methodLink "Tidewater$Client" (113 : Nat) ({ cls := "Tidewater$Transit", name := "takeDue", desc := "(I)LTidewater$Message;" } : Jvm.MethodName)) ∈ z_ws := z_wt 924 (by decide +kernel) rfl
theorem zw_925 : (methodLink "Tidewater$Client" (117 : Nat) ({ cls := "Tidewater$Client", name := "hear", desc := "(LTidewater$Message;)V" } : Jvm.MethodName)) ∈ z_ws := z_wt 925 (by decide +kernel) rfl
theorem zw_927 : (instanceMethod ({ cls := "Tidewater$Client", name := "hear", desc := "(LTidewater$Message;)V" } : Jvm.MethodName)) ∈ z_ws := z_wt 927 (by decide +kernel) rfl
theorem zw_928 : (code ({ cls := "Tidewater$Client", name := "hear", desc := "(LTidewater$Message;)V" } : Jvm.MethodName) prog_3_method_10_code (3 : Nat) (Option.none : Option FieldType)) ∈ z_ws := z_wt 928 (by decide +kernel) rfl
theorem zw_929 : (methodLink "Tidewater$Client" (127 : Nat) ({ cls := "Tidewater$Client", name := "routeOf", desc := "(I)LTidewater$Route;" } : Jvm.MethodName)) ∈ z_ws := z_wt 929 (by decide +kernel) rfl
theorem zw_930 : (methodLink "Tidewater$Client" (137 : Nat) ({ cls := "Tidewater$Client", name := "hearAccept", desc := "(Z)V" } : Jvm.MethodName)) ∈ z_ws := z_wt 930 (by decide +kernel) rfl
theorem zw_932 : (instanceMethod ({ cls := "Tidewater$Client", name := "hearAccept", desc := "(Z)V" } : Jvm.MethodName)) ∈ z_ws := z_wt 932 (by decide +kernel) rfl
theorem zw_933 : (code ({ cls := "Tidewater$Client", name := "hearAccept", desc := "(Z)V" } : Jvm.MethodName) prog_3_method_11_code (4 : Nat) (Option.none : Option FieldType)) ∈ z_ws := z_wt 933 (by decide +kernel) rfl
theorem zw_934 : (methodLink "Tidewater$Client" (149 : Nat) ({ cls := "Tidewater$Route", name := "measure", desc := "(I)V" } : Jvm.MethodName)) ∈ z_ws := z_wt 934 (by decide +kernel) rfl
theorem zw_935 : (instanceMethod ({ cls := "Tidewater$Route", name := "measure", desc := "(I)V" } : Jvm.MethodName)) ∈ z_ws := z_wt 935 (by decide +kernel) rfl
theorem zw_936 : (selects "Tidewater$Route" ({ cls := "Tidewater$Route", name := "measure", desc := "(I)V" } : Jvm.MethodName) ({ cls := "Tidewater$Route", name := "measure", desc := "(I)V" } : Jvm.MethodName)) ∈ z_ws := z_wt 936 (by decide +kernel) rfl
theorem zw_937 : (code ({ cls := "Tidewater$Route", name := "measure", desc := "(I)V" } : Jvm.MethodName) prog_9_method_2_code (2 : Nat) (Option.none : Option FieldType)) ∈ z_ws := z_wt 937 (by decide +kernel) rfl
theorem zw_938 : (methodLink "Tidewater$Route" (44 : Nat) ({ cls := "java/lang/Math", name := "min", desc := "(II)I" } : Jvm.MethodName)) ∈ z_ws := z_wt 938 (by decide +kernel) rfl
theorem zw_939 : (methodLink "Tidewater$Route" (50 : Nat) ({ cls := "java/lang/Math", name := "abs", desc := "(I)I" } : Jvm.MethodName)) ∈ z_ws := z_wt 939 (by decide +kernel) rfl
theorem zw_940 : (static ({ cls := "java/lang/Math", name := "abs", desc := "(I)I" } : Jvm.MethodName)) ∈ z_ws := z_wt 940 (by decide +kernel) rfl
theorem zw_941 : (code ({ cls := "java/lang/Math", name := "abs", desc := "(I)I" } : Jvm.MethodName) prog_19_method_59_code (1 : Nat) (Option.some FieldType.int)) ∈ z_ws := z_wt 941 (by decide +kernel) rfl
theorem zw_942 : (methodLink "Tidewater$Client" (158 : Nat) ({ cls := "Tidewater$Client", name := "leaveFlight", desc := "(LTidewater$Packet;I)V" } : Jvm.MethodName)) ∈ z_ws := z_wt 942 (by decide +kernel) rfl
theorem zw_944 : (instanceMethod ({ cls := "Tidewater$Client", name := "leaveFlight", desc := "(LTidewater$Packet;I)V" } : Jvm.MethodName)) ∈ z_ws := z_wt 944 (by decide +kernel) rfl
theorem zw_945 : (code ({ cls := "Tidewater$Client", name := "leaveFlight", desc := "(LTidewater$Packet;I)V" } : Jvm.MethodName) prog_3_method_12_code (3 : Nat) (Option.none : Option FieldType)) ∈ z_ws := z_wt 945 (by decide +kernel) rfl
theorem zw_946 : (methodLink "Tidewater$Client" (175 : Nat) ({ cls := "Tidewater$Stream", name := "acknowledge", desc := "(II)V" } : Jvm.MethodName)) ∈ z_ws := z_wt 946 (by decide +kernel) rfl
theorem zw_947 : (instanceMethod ({ cls := "Tidewater$Stream", name := "acknowledge", desc := "(II)V" } : Jvm.MethodName)) ∈ z_ws := z_wt 947 (by decide +kernel) rfl
theorem zw_948 : (selects "Tidewater$Stream" ({ cls := "Tidewater$Stream", name := "acknowledge", desc := "(II)V" } : Jvm.MethodName) ({ cls := "Tidewater$Stream", name := "acknowledge", desc := "(II)V" } : Jvm.MethodName)) ∈ z_ws := z_wt 948 (by decide +kernel) rfl
theorem zw_949 : (code ({ cls := "Tidewater$Stream", name := "acknowledge", desc := "(II)V" } : Jvm.MethodName) prog_11_method_8_code (4 : Nat) (Option.none : Option FieldType)) ∈ z_ws := z_wt 949 (by decide +kernel) rfl
theorem zw_950 : (methodLink "Tidewater$Stream" (42 : Nat) ({ cls := "java/lang/Math", name := "max", desc := "(II)I" } : Jvm.MethodName)) ∈ z_ws := z_wt 950 (by decide +kernel) rfl
theorem zw_951 : (methodLink "Tidewater$Stream" (29 : Nat) ({ cls := "Tidewater$Stream", name := "isLost", desc := "(I)Z" } : Jvm.MethodName)) ∈ z_ws := z_wt 951 (by decide +kernel) rfl
theorem zw_952 : (instanceMethod ({ cls := "Tidewater$Stream", name := "isLost", desc := "(I)Z" } : Jvm.MethodName)) ∈ z_ws := z_wt 952 (by decide +kernel) rfl
theorem zw_953 : (selects "Tidewater$Stream" ({ cls := "Tidewater$Stream", name := "isLost", desc := "(I)Z" } : Jvm.MethodName) ({ cls := "Tidewater$Stream", name := "isLost", desc := "(I)Z" } : Jvm.MethodName)) ∈ z_ws := z_wt 953 (by decide +kernel) rfl
theorem zw_954 : (code ({ cls := "Tidewater$Stream", name := "isLost", desc := "(I)Z" } : Jvm.MethodName) prog_11_method_2_code (2 : Nat) (Option.some FieldType.boolean)) ∈ z_ws := z_wt 954 (by decide +kernel) rfl
theorem zw_955 : (methodLink "Tidewater$Client" (181 : Nat) ({ cls := "Tidewater$Stream", name := "land", desc := "(II)V" } : Jvm.MethodName)) ∈ z_ws := z_wt 955 (by decide +kernel) rfl
theorem zw_956 : (instanceMethod ({ cls := "Tidewater$Stream", name := "land", desc := "(II)V" } : Jvm.MethodName)) ∈ z_ws := z_wt 956 (by decide +kernel) rfl
theorem zw_957 : (selects "Tidewater$Stream" ({ cls := "Tidewater$Stream", name := "land", desc := "(II)V" } : Jvm.MethodName) ({ cls := "Tidewater$Stream", name := "land", desc := "(II)V" } : Jvm.MethodName)) ∈ z_ws := z_wt 957 (by decide +kernel) rfl
theorem zw_958 : (code ({ cls := "Tidewater$Stream", name := "land", desc := "(II)V" } : Jvm.MethodName) prog_11_method_7_code (4 : Nat) (Option.none : Option FieldType)) ∈ z_ws := z_wt 958 (by decide +kernel) rfl
theorem zw_959 : (methodLink "Tidewater$Client" (145 : Nat) ({ cls := "Tidewater$Client", name := "hearAck", desc := "(LTidewater$Ack;)V" } : Jvm.MethodName)) ∈ z_ws := z_wt 959 (by decide +kernel) rfl
theorem zw_961 : (instanceMethod ({ cls := "Tidewater$Client", name := "hearAck", desc := "(LTidewater$Ack;)V" } : Jvm.MethodName)) ∈ z_ws := z_wt 961 (by decide +kernel) rfl
theorem zw_962 : (code ({ cls := "Tidewater$Client", name := "hearAck", desc := "(LTidewater$Ack;)V" } : Jvm.MethodName) prog_3_method_13_code (6 : Nat) (Option.none : Option FieldType)) ∈ z_ws := z_wt 962 (by decide +kernel) rfl
theorem zw_963 : (methodLink "Tidewater$Client" (184 : Nat) ({ cls := "Tidewater$Ack", name := "greatest", desc := "()I" } : Jvm.MethodName)) ∈ z_ws := z_wt 963 (by decide +kernel) rfl
theorem zw_964 : (instanceMethod ({ cls := "Tidewater$Ack", name := "greatest", desc := "()I" } : Jvm.MethodName)) ∈ z_ws := z_wt 964 (by decide +kernel) rfl
theorem zw_965 : (selects "Tidewater$Ack" ({ cls := "Tidewater$Ack", name := "greatest", desc := "()I" } : Jvm.MethodName) ({ cls := "Tidewater$Ack", name := "greatest", desc := "()I" } : Jvm.MethodName)) ∈ z_ws := z_wt 965 (by decide +kernel) rfl
theorem zw_966 : (code ({ cls := "Tidewater$Ack", name := "greatest", desc := "()I" } : Jvm.MethodName) prog_2_method_3_code (1 : Nat) (Option.some FieldType.int)) ∈ z_ws := z_wt 966 (by decide +kernel) rfl
theorem zw_967 : (methodLink "Tidewater$Client" (193 : Nat) ({ cls := "java/lang/Math", name := "min", desc := "(II)I" } : Jvm.MethodName)) ∈ z_ws := z_wt 967 (by decide +kernel) rfl
theorem zw_968 : (methodLink "Tidewater$Client" (206 : Nat) ({ cls := "Tidewater$Client", name := "acknowledge", desc := "(LTidewater$Packet;)V" } : Jvm.MethodName)) ∈ z_ws := z_wt 968 (by decide +kernel) rfl
theorem zw_970 : (instanceMethod ({ cls := "Tidewater$Client", name := "acknowledge", desc := "(LTidewater$Packet;)V" } : Jvm.MethodName)) ∈ z_ws := z_wt 970 (by decide +kernel) rfl
theorem zw_971 : (code ({ cls := "Tidewater$Client", name := "acknowledge", desc := "(LTidewater$Packet;)V" } : Jvm.MethodName) prog_3_method_15_code (4 : Nat) (Option.none : Option FieldType)) ∈ z_ws := z_wt 971 (by decide +kernel) rfl
theorem zw_972 : (methodLink "Tidewater$Client" (254 : Nat) ({ cls := "Tidewater$Growth", name := "grow", desc := "(IIII)V" } : Jvm.MethodName)) ∈ z_ws := z_wt 972 (by decide +kernel) rfl
theorem zw_973 : (instanceMethod ({ cls := "Tidewater$Growth", name := "grow", desc := "(IIII)V" } : Jvm.MethodName)) ∈ z_ws := z_wt 973 (by decide +kernel) rfl
theorem zw_974 : (selects "Tidewater$Growth" ({ cls := "Tidewater$Growth", name := "grow", desc := "(IIII)V" } : Jvm.MethodName) ({ cls := "Tidewater$Growth", name := "grow", desc := "(IIII)V" } : Jvm.MethodName)) ∈ z_ws := z_wt 974 (by decide +kernel) rfl
theorem zw_975 : (code ({ cls := "Tidewater$Growth", name := "grow", desc := "(IIII)V" } : Jvm.MethodName) prog_4_method_2_code (5 : Nat) (Option.none : Option FieldType)) ∈ z_ws := z_wt 975 (by decide +kernel) rfl
theorem zw_976 : (methodLink "Tidewater$Growth" (35 : Nat) ({ cls := "java/lang/Math", name := "max", desc := "(II)I" } : Jvm.MethodName)) ∈ z_ws := z_wt 976 (by decide +kernel) rfl
theorem zw_977 : (methodLink "Tidewater$Growth" (41 : Nat) ({ cls := "Tidewater$Growth", name := "keepRate", desc := "(I)V" } : Jvm.MethodName)) ∈ z_ws := z_wt 977 (by decide +kernel) rfl
theorem zw_979 : (instanceMethod ({ cls := "Tidewater$Growth", name := "keepRate", desc := "(I)V" } : Jvm.MethodName)) ∈ z_ws := z_wt 979 (by decide +kernel) rfl
theorem zw_980 : (code ({ cls := "Tidewater$Growth", name := "keepRate", desc := "(I)V" } : Jvm.MethodName) prog_4_method_4_code (2 : Nat) (Option.none : Option FieldType)) ∈ z_ws := z_wt 980 (by decide +kernel) rfl
theorem zw_981 : (methodLink "Tidewater$Growth" (45 : Nat) ({ cls := "Tidewater$Growth", name := "greatestRate", desc := "()I" } : Jvm.MethodName)) ∈ z_ws := z_wt 981 (by decide +kernel) rfl
theorem zw_983 : (instanceMethod ({ cls := "Tidewater$Growth", name := "greatestRate", desc := "()I" } : Jvm.MethodName)) ∈ z_ws := z_wt 983 (by decide +kernel) rfl
theorem zw_984 : (code ({ cls := "Tidewater$Growth", name := "greatestRate", desc := "()I" } : Jvm.MethodName) prog_4_method_5_code (6 : Nat) (Option.some FieldType.int)) ∈ z_ws := z_wt 984 (by decide +kernel) rfl
theorem zw_985 : (methodLink "Tidewater$Growth" (49 : Nat) ({ cls := "Tidewater$Growth", name := "cubeStep", desc := "(I)I" } : Jvm.MethodName)) ∈ z_ws := z_wt 985 (by decide +kernel) rfl
theorem zw_987 : (instanceMethod ({ cls := "Tidewater$Growth", name := "cubeStep", desc := "(I)I" } : Jvm.MethodName)) ∈ z_ws := z_wt 987 (by decide +kernel) rfl
theorem zw_988 : (code ({ cls := "Tidewater$Growth", name := "cubeStep", desc := "(I)I" } : Jvm.MethodName) prog_4_method_3_code (10 : Nat) (Option.some FieldType.int)) ∈ z_ws := z_wt 988 (by decide +kernel) rfl
theorem zw_989 : (constantLong "Tidewater$Growth" (53 : Nat) (3 : Int64)) ∈ z_ws := z_wt 989 (by decide +kernel) rfl
theorem zw_990 : (constantLong "Tidewater$Growth" (55 : Nat) (10 : Int64)) ∈ z_ws := z_wt 990 (by decide +kernel) rfl
theorem zw_991 : (constantLong "Tidewater$Growth" (57 : Nat) (10000 : Int64)) ∈ z_ws := z_wt 991 (by decide +kernel) rfl
theorem zw_992 : (constantLong "Tidewater$Growth" (59 : Nat) (2 : Int64)) ∈ z_ws := z_wt 992 (by decide +kernel) rfl
theorem zw_993 : (constantLong "Tidewater$Growth" (61 : Nat) (125 : Int64)) ∈ z_ws := z_wt 993 (by decide +kernel) rfl
theorem zw_994 : (constantLong "Tidewater$Growth" (66 : Nat) (16 : Int64)) ∈ z_ws := z_wt 994 (by decide +kernel) rfl
theorem zw_995 : (methodLink "Tidewater$Growth" (68 : Nat) ({ cls := "java/lang/Math", name := "max", desc := "(JJ)J" } : Jvm.MethodName)) ∈ z_ws := z_wt 995 (by decide +kernel) rfl
theorem zw_996 : (static ({ cls := "java/lang/Math", name := "max", desc := "(JJ)J" } : Jvm.MethodName)) ∈ z_ws := z_wt 996 (by decide +kernel) rfl
theorem zw_997 : (code ({ cls := "java/lang/Math", name := "max", desc := "(JJ)J" } : Jvm.MethodName) prog_19_method_66_code (4 : Nat) (Option.some FieldType.long)) ∈ z_ws := z_wt 997 (by decide +kernel) rfl
theorem zw_998 : (methodLink "Tidewater$Client" (263 : Nat) ({ cls := "java/lang/Math", name := "max", desc := "(II)I" } : Jvm.MethodName)) ∈ z_ws := z_wt 998 (by decide +kernel) rfl
theorem zw_999 : (methodLink "Tidewater$Client" (269 : Nat) ({ cls := "Tidewater$Growth", name := "takeBackHarm", desc := "(I)V" } : Jvm.MethodName)) ∈ z_ws := z_wt 999 (by decide +kernel) rfl
theorem zw_1000 : (instanceMethod ({ cls := "Tidewater$Growth", name := "takeBackHarm", desc := "(I)V" } : Jvm.MethodName)) ∈ z_ws := z_wt 1000 (by decide +kernel) rfl
theorem zw_1001 : (selects "Tidewater$Growth" ({ cls := "Tidewater$Growth", name := "takeBackHarm", desc := "(I)V" } : Jvm.MethodName) ({ cls := "Tidewater$Growth", name := "takeBackHarm", desc := "(I)V" } : Jvm.MethodName)) ∈ z_ws := z_wt 1001 (by decide +kernel) rfl
theorem zw_1002 : (code ({ cls := "Tidewater$Growth", name := "takeBackHarm", desc := "(I)V" } : Jvm.MethodName) prog_4_method_7_code (2 : Nat) (Option.none : Option FieldType)) ∈ z_ws := z_wt 1002 (by decide +kernel) rfl
theorem zw_1003 : (methodLink "Tidewater$Client" (212 : Nat) ({ cls := "Tidewater$Client", name := "hearOfGreatest", desc := "(LTidewater$Packet;ZI)V" } : Jvm.MethodName)) ∈ z_ws := z_wt 1003 (by decide +kernel) rfl
theorem zw_1005 : (instanceMethod ({ cls := "Tidewater$Client", name := "hearOfGreatest", desc := "(LTidewater$Packet;ZI)V" } : Jvm.MethodName)) ∈ z_ws := z_wt 1005 (by decide +kernel) rfl
theorem zw_1006 : (code ({ cls := "Tidewater$Client", name := "hearOfGreatest", desc := "(LTidewater$Packet;ZI)V" } : Jvm.MethodName) prog_3_method_14_code (5 : Nat) (Option.none : Option FieldType)) ∈ z_ws := z_wt 1006 (by decide +kernel) rfl
theorem zw_1007 : (methodLink "Tidewater$Client" (239 : Nat) ({ cls := "Tidewater$Growth", name := "harm", desc := "(IIII)V" } : Jvm.MethodName)) ∈ z_ws := z_wt 1007 (by decide +kernel) rfl
theorem zw_1008 : (instanceMethod ({ cls := "Tidewater$Growth", name := "harm", desc := "(IIII)V" } : Jvm.MethodName)) ∈ z_ws := z_wt 1008 (by decide +kernel) rfl
theorem zw_1009 : (selects "Tidewater$Growth" ({ cls := "Tidewater$Growth", name := "harm", desc := "(IIII)V" } : Jvm.MethodName) ({ cls := "Tidewater$Growth", name := "harm", desc := "(IIII)V" } : Jvm.MethodName)) ∈ z_ws := z_wt 1009 (by decide +kernel) rfl
theorem zw_1010 : (code ({ cls := "Tidewater$Growth", name := "harm", desc := "(IIII)V" } : Jvm.MethodName) prog_4_method_6_code (5 : Nat) (Option.none : Option FieldType)) ∈ z_ws := z_wt 1010 (by decide +kernel) rfl
theorem zw_1011 : (methodLink "Tidewater$Client" (216 : Nat) ({ cls := "Tidewater$Client", name := "takeCredits", desc := "(LTidewater$Ack;)V" } : Jvm.MethodName)) ∈ z_ws := z_wt 1011 (by decide +kernel) rfl
theorem zw_1013 : (instanceMethod ({ cls := "Tidewater$Client", name := "takeCredits", desc := "(LTidewater$Ack;)V" } : Jvm.MethodName)) ∈ z_ws := z_wt 1013 (by decide +kernel) rfl
theorem zw_1014 : (code ({ cls := "Tidewater$Client", name := "takeCredits", desc := "(LTidewater$Ack;)V" } : Jvm.MethodName) prog_3_method_16_code (3 : Nat) (Option.none : Option FieldType)) ∈ z_ws := z_wt 1014 (by decide +kernel) rfl
theorem zw_1015 : (methodLink "Tidewater$Client" (222 : Nat) ({ cls := "Tidewater$Client", name := "findLosses", desc := "(LTidewater$Route;Z)V" } : Jvm.MethodName)) ∈ z_ws := z_wt 1015 (by decide +kernel) rfl
theorem zw_1017 : (instanceMethod ({ cls := "Tidewater$Client", name := "findLosses", desc := "(LTidewater$Route;Z)V" } : Jvm.MethodName)) ∈ z_ws := z_wt 1017 (by decide +kernel) rfl
theorem zw_1018 : (code ({ cls := "Tidewater$Client", name := "findLosses", desc := "(LTidewater$Route;Z)V" } : Jvm.MethodName) prog_3_method_17_code (6 : Nat) (Option.none : Option FieldType)) ∈ z_ws := z_wt 1018 (by decide +kernel) rfl
theorem zw_1019 : (methodLink "Tidewater$Client" (279 : Nat) ({ cls := "Tidewater$Client", name := "lowestInFlight", desc := "(LTidewater$Route;)LTidewater$Packet;" } : Jvm.MethodName)) ∈ z_ws := z_wt 1019 (by decide +kernel) rfl
theorem zw_1021 : (instanceMethod ({ cls := "Tidewater$Client", name := "lowestInFlight", desc := "(LTidewater$Route;)LTidewater$Packet;" } : Jvm.MethodName)) ∈ z_ws := z_wt 1021 (by decide +kernel) rfl
theorem zw_1022 : (code ({ cls := "Tidewater$Client", name := "lowestInFlight", desc := "(LTidewater$Route;)LTidewater$Packet;" } : Jvm.MethodName) prog_3_method_18_code (5 : Nat) (Option.some (FieldType.object "Tidewater$Packet"))) ∈ z_ws := z_wt 1022 (by decide +kernel) rfl
theorem zw_1023 : (methodLink "Tidewater$Client" (283 : Nat) ({ cls := "Tidewater$Route", name := "isLostByOrder", desc := "(LTidewater$Packet;)Z" } : Jvm.MethodName)) ∈ z_ws := z_wt 1023 (by decide +kernel) rfl
theorem zw_1024 : (instanceMethod ({ cls := "Tidewater$Route", name := "isLostByOrder", desc := "(LTidewater$Packet;)Z" } : Jvm.MethodName)) ∈ z_ws := z_wt 1024 (by decide +kernel) rfl
theorem zw_1025 : (selects "Tidewater$Route" ({ cls := "Tidewater$Route", name := "isLostByOrder", desc := "(LTidewater$Packet;)Z" } : Jvm.MethodName) ({ cls := "Tidewater$Route", name := "isLostByOrder", desc := "(LTidewater$Packet;)Z" } : Jvm.MethodName)) ∈ z_ws := z_wt 1025 (by decide +kernel) rfl
theorem zw_1026 : (code ({ cls := "Tidewater$Route", name := "isLostByOrder", desc := "(LTidewater$Packet;)Z" } : Jvm.MethodName) prog_9_method_6_code (2 : Nat) (Option.some FieldType.boolean)) ∈ z_ws := z_wt 1026 (by decide +kernel) rfl
theorem zw_1027 : (methodLink "Tidewater$Client" (286 : Nat) ({ cls := "Tidewater$Route", name := "isLostByTime", desc := "(LTidewater$Packet;I)Z" } : Jvm.MethodName)) ∈ z_ws := z_wt 1027 (by decide +kernel) rfl
theorem zw_1028 : (instanceMethod ({ cls := "Tidewater$Route", name := "isLostByTime", desc := "(LTidewater$Packet;I)Z" } : Jvm.MethodName)) ∈ z_ws := z_wt 1028 (by decide +kernel) rfl
theorem zw_1029 : (selects "Tidewater$Route" ({ cls := "Tidewater$Route", name := "isLostByTime", desc := "(LTidewater$Packet;I)Z" } : Jvm.MethodName) ({ cls := "Tidewater$Route", name := "isLostByTime", desc := "(LTidewater$Packet;I)Z" } : Jvm.MethodName)) ∈ z_ws := z_wt 1029 (by decide +kernel) rfl
theorem zw_1030 : (code ({ cls := "Tidewater$Route", name := "isLostByTime", desc := "(LTidewater$Packet;I)Z" } : Jvm.MethodName) prog_9_method_7_code (4 : Nat) (Option.some FieldType.boolean)) ∈ z_ws := z_wt 1030 (by decide +kernel) rfl
theorem zw_1031 : (methodLink "Tidewater$Route" (67 : Nat) ({ cls := "java/lang/Math", name := "max", desc := "(II)I" } : Jvm.MethodName)) ∈ z_ws := z_wt 1031 (by decide +kernel) rfl
theorem zw_1032 : (methodLink "Tidewater" (162 : Nat) ({ cls := "Tidewater$Server", name := "acknowledgeInTime", desc := "()V" } : Jvm.MethodName)) ∈ z_ws := z_wt 1032 (by decide +kernel) rfl
theorem zw_1033 : (instanceMethod ({ cls := "Tidewater$Server", name := "acknowledgeInTime", desc := "()V" } : Jvm.MethodName)) ∈ z_ws := z_wt 1033 (by decide +kernel) rfl
theorem zw_1034 : (selects "Tidewater$Server" ({ cls := "Tidewater$Server", name := "acknowledgeInTime", desc := "()V" } : Jvm.MethodName) ({ cls := "Tidewater$Server", name := "acknowledgeInTime", desc := "()V" } : Jvm.MethodName)) ∈ z_ws := z_wt 1034 (by decide +kernel) rfl
theorem zw_1035 : (code ({ cls := "Tidewater$Server", name := "acknowledgeInTime", desc := "()V" } : Jvm.MethodName) prog_10_method_11_code (1 : Nat) (Option.none : Option FieldType)) ∈ z_ws := z_wt 1035 (by decide +kernel) rfl
theorem zw_1036 : (methodLink "Tidewater" (165 : Nat) ({ cls := "Tidewater$Client", name := "lookAfter", desc := "()V" } : Jvm.MethodName)) ∈ z_ws := z_wt 1036 (by decide +kernel) rfl
theorem zw_1037 : (instanceMethod ({ cls := "Tidewater$Client", name := "lookAfter", desc := "()V" } : Jvm.MethodName)) ∈ z_ws := z_wt 1037 (by decide +kernel) rfl
theorem zw_1038 : (selects "Tidewater$Client" ({ cls := "Tidewater$Client", name := "lookAfter", desc := "()V" } : Jvm.MethodName) ({ cls := "Tidewater$Client", name := "lookAfter", desc := "()V" } : Jvm.MethodName)) ∈ z_ws := z_wt 1038 (by decide +kernel) rfl
theorem zw_1039 : (code ({ cls := "Tidewater$Client", name := "lookAfter", desc := "()V" } : Jvm.MethodName) prog_3_method_19_code (1 : Nat) (Option.none : Option FieldType)) ∈ z_ws := z_wt 1039 (by decide +kernel) rfl
theorem zw_1040 : (methodLink "Tidewater$Client" (294 : Nat) ({ cls := "Tidewater$Client", name := "probeInTime", desc := "(LTidewater$Route;)V" } : Jvm.MethodName)) ∈ z_ws := z_wt 1040 (by decide +kernel) rfl
theorem zw_1042 : (instanceMethod ({ cls := "Tidewater$Client", name := "probeInTime", desc := "(LTidewater$Route;)V" } : Jvm.MethodName)) ∈ z_ws := z_wt 1042 (by decide +kernel) rfl
theorem zw_1043 : (code ({ cls := "Tidewater$Client", name := "probeInTime", desc := "(LTidewater$Route;)V" } : Jvm.MethodName) prog_3_method_20_code (3 : Nat) (Option.none : Option FieldType)) ∈ z_ws := z_wt 1043 (by decide +kernel) rfl
theorem zw_1044 : (methodLink "Tidewater$Client" (298 : Nat) ({ cls := "Tidewater$Route", name := "isProbeDue", desc := "(I)Z" } : Jvm.MethodName)) ∈ z_ws := z_wt 1044 (by decide +kernel) rfl
theorem zw_1045 : (instanceMethod ({ cls := "Tidewater$Route", name := "isProbeDue", desc := "(I)Z" } : Jvm.MethodName)) ∈ z_ws := z_wt 1045 (by decide +kernel) rfl
theorem zw_1046 : (selects "Tidewater$Route" ({ cls := "Tidewater$Route", name := "isProbeDue", desc := "(I)Z" } : Jvm.MethodName) ({ cls := "Tidewater$Route", name := "isProbeDue", desc := "(I)Z" } : Jvm.MethodName)) ∈ z_ws := z_wt 1046 (by decide +kernel) rfl
theorem zw_1047 : (code ({ cls := "Tidewater$Route", name := "isProbeDue", desc := "(I)Z" } : Jvm.MethodName) prog_9_method_5_code (3 : Nat) (Option.some FieldType.boolean)) ∈ z_ws := z_wt 1047 (by decide +kernel) rfl
theorem zw_1048 : (methodLink "Tidewater$Client" (305 : Nat) ({ cls := "Tidewater$Client", name := "sendPacket", desc := "(LTidewater$Route;IIIZ)V" } : Jvm.MethodName)) ∈ z_ws := z_wt 1048 (by decide +kernel) rfl
theorem zw_1050 : (instanceMethod ({ cls := "Tidewater$Client", name := "sendPacket", desc := "(LTidewater$Route;IIIZ)V" } : Jvm.MethodName)) ∈ z_ws := z_wt 1050 (by decide +kernel) rfl
theorem zw_1051 : (code ({ cls := "Tidewater$Client", name := "sendPacket", desc := "(LTidewater$Route;IIIZ)V" } : Jvm.MethodName) prog_3_method_25_code (8 : Nat) (Option.none : Option FieldType)) ∈ z_ws := z_wt 1051 (by decide +kernel) rfl
theorem zw_1052 : (instantiable "Tidewater$Packet" (14 : Nat)) ∈ z_ws := z_wt 1052 (by decide +kernel) rfl
theorem zw_1053 : (methodLink "Tidewater$Client" (341 : Nat) ({ cls := "Tidewater$Packet", name := "<init>", desc := "(IIIIII)V" } : Jvm.MethodName)) ∈ z_ws := z_wt 1053 (by decide +kernel) rfl
theorem zw_1054 : (instanceMethod ({ cls := "Tidewater$Packet", name := "<init>", desc := "(IIIIII)V" } : Jvm.MethodName)) ∈ z_ws := z_wt 1054 (by decide +kernel) rfl
theorem zw_1055 : (code ({ cls := "Tidewater$Packet", name := "<init>", desc := "(IIIIII)V" } : Jvm.MethodName) prog_8_method_1_code (7 : Nat) (Option.none : Option FieldType)) ∈ z_ws := z_wt 1055 (by decide +kernel) rfl
theorem zw_1056 : (methodLink "Tidewater$Packet" (3 : Nat) ({ cls := "java/lang/Object", name := "<init>", desc := "()V" } : Jvm.MethodName)) ∈ z_ws := z_wt 1056 (by decide +kernel) rfl
theorem zw_1057 : (fieldLink "Tidewater$Packet" (15 : Nat) "Tidewater$Packet" "number" "I") ∈ z_ws := z_wt 1057 (by decide +kernel) rfl
theorem zw_1058 : (fieldLink "Tidewater$Server" (149 : Nat) "Tidewater$Packet" "number" "I") ∈ z_ws := z_wt 1058 (by decide +kernel) rfl
theorem zw_1059 : (fieldLink "Tidewater$Client" (236 : Nat) "Tidewater$Packet" "number" "I") ∈ z_ws := z_wt 1059 (by decide +kernel) rfl
theorem zw_1060 : (fieldLink "Tidewater$Packet" (18 : Nat) "Tidewater$Packet" "path" "I") ∈ z_ws := z_wt 1060 (by decide +kernel) rfl
theorem zw_1061 : (fieldLink "Tidewater$Client" (162 : Nat) "Tidewater$Packet" "path" "I") ∈ z_ws := z_wt 1061 (by decide +kernel) rfl
theorem zw_1062 : (fieldLink "Tidewater" (230 : Nat) "Tidewater$Packet" "path" "I") ∈ z_ws := z_wt 1062 (by decide +kernel) rfl
theorem zw_1063 : (fieldLink "Tidewater$Packet" (21 : Nat) "Tidewater$Packet" "sentAt" "I") ∈ z_ws := z_wt 1063 (by decide +kernel) rfl
theorem zw_1064 : (fieldLink "Tidewater$Route" (81 : Nat) "Tidewater$Packet" "sentAt" "I") ∈ z_ws := z_wt 1064 (by decide +kernel) rfl
theorem zw_1065 : (fieldLink "Tidewater$Client" (226 : Nat) "Tidewater$Packet" "sentAt" "I") ∈ z_ws := z_wt 1065 (by decide +kernel) rfl
theorem zw_1066 : (fieldLink "Tidewater" (235 : Nat) "Tidewater$Packet" "sentAt" "I") ∈ z_ws := z_wt 1066 (by decide +kernel) rfl
theorem zw_1067 : (fieldLink "Tidewater$Packet" (24 : Nat) "Tidewater$Packet" "stream" "I") ∈ z_ws := z_wt 1067 (by decide +kernel) rfl
theorem zw_1068 : (fieldLink "Tidewater$Server" (158 : Nat) "Tidewater$Packet" "stream" "I") ∈ z_ws := z_wt 1068 (by decide +kernel) rfl
theorem zw_1069 : (fieldLink "Tidewater$Client" (166 : Nat) "Tidewater$Packet" "stream" "I") ∈ z_ws := z_wt 1069 (by decide +kernel) rfl
theorem zw_1070 : (fieldLink "Tidewater" (238 : Nat) "Tidewater$Packet" "stream" "I") ∈ z_ws := z_wt 1070 (by decide +kernel) rfl
theorem zw_1071 : (fieldLink "Tidewater$Packet" (27 : Nat) "Tidewater$Packet" "first" "I") ∈ z_ws := z_wt 1071 (by decide +kernel) rfl
theorem zw_1072 : (fieldLink "Tidewater$Server" (161 : Nat) "Tidewater$Packet" "first" "I") ∈ z_ws := z_wt 1072 (by decide +kernel) rfl
theorem zw_1073 : (fieldLink "Tidewater$Client" (169 : Nat) "Tidewater$Packet" "first" "I") ∈ z_ws := z_wt 1073 (by decide +kernel) rfl
theorem zw_1074 : (fieldLink "Tidewater" (241 : Nat) "Tidewater$Packet" "first" "I") ∈ z_ws := z_wt 1074 (by decide +kernel) rfl
theorem zw_1075 : (fieldLink "Tidewater$Packet" (30 : Nat) "Tidewater$Packet" "many" "I") ∈ z_ws := z_wt 1075 (by decide +kernel) rfl
theorem zw_1076 : (fieldLink "Tidewater$Server" (164 : Nat) "Tidewater$Packet" "many" "I") ∈ z_ws := z_wt 1076 (by decide +kernel) rfl
theorem zw_1077 : (fieldLink "Tidewater$Client" (172 : Nat) "Tidewater$Packet" "many" "I") ∈ z_ws := z_wt 1077 (by decide +kernel) rfl
theorem zw_1078 : (fieldLink "Tidewater" (244 : Nat) "Tidewater$Packet" "many" "I") ∈ z_ws := z_wt 1078 (by decide +kernel) rfl
theorem zw_1079 : (fieldLink "Tidewater$Client" (87 : Nat) "Tidewater$Packet" "key" "I") ∈ z_ws := z_wt 1079 (by decide +kernel) rfl
theorem zw_1080 : (fieldLink "Tidewater$Server" (152 : Nat) "Tidewater$Packet" "key" "I") ∈ z_ws := z_wt 1080 (by decide +kernel) rfl
theorem zw_1081 : (fieldLink "Tidewater" (253 : Nat) "Tidewater$Packet" "key" "I") ∈ z_ws := z_wt 1081 (by decide +kernel) rfl
theorem zw_1082 : (fieldLink "Tidewater$Server" (171 : Nat) "Tidewater$Packet" "isProbe" "Z") ∈ z_ws := z_wt 1082 (by decide +kernel) rfl
theorem zw_1083 : (fieldLink "Tidewater" (254 : Nat) "Tidewater$Packet" "isProbe" "Z") ∈ z_ws := z_wt 1083 (by decide +kernel) rfl
theorem zw_1084 : (fieldLink "Tidewater$Client" (344 : Nat) "Tidewater$Packet" "isProbe" "Z") ∈ z_ws := z_wt 1084 (by decide +kernel) rfl
theorem zw_1085 : (fieldLink "Tidewater$Server" (146 : Nat) "Tidewater$Packet" "isEarly" "Z") ∈ z_ws := z_wt 1085 (by decide +kernel) rfl
theorem zw_1086 : (fieldLink "Tidewater$Client" (155 : Nat) "Tidewater$Packet" "isEarly" "Z") ∈ z_ws := z_wt 1086 (by decide +kernel) rfl
theorem zw_1087 : (fieldLink "Tidewater" (257 : Nat) "Tidewater$Packet" "isEarly" "Z") ∈ z_ws := z_wt 1087 (by decide +kernel) rfl
theorem zw_1088 : (fieldLink "Tidewater$Network" (62 : Nat) "Tidewater$Packet" "isMarked" "Z") ∈ z_ws := z_wt 1088 (by decide +kernel) rfl
theorem zw_1089 : (fieldLink "Tidewater$Server" (174 : Nat) "Tidewater$Packet" "isMarked" "Z") ∈ z_ws := z_wt 1089 (by decide +kernel) rfl
theorem zw_1090 : (fieldLink "Tidewater" (260 : Nat) "Tidewater$Packet" "isMarked" "Z") ∈ z_ws := z_wt 1090 (by decide +kernel) rfl
theorem zw_1091 : (fieldLink "Tidewater$Packet" (9 : Nat) "Tidewater$Packet" "known" "I") ∈ z_ws := z_wt 1091 (by decide +kernel) rfl
theorem zw_1092 : (fieldLink "Tidewater$Client" (95 : Nat) "Tidewater$Packet" "known" "I") ∈ z_ws := z_wt 1092 (by decide +kernel) rfl
theorem zw_1093 : (fieldLink "Tidewater" (247 : Nat) "Tidewater$Packet" "known" "I") ∈ z_ws := z_wt 1093 (by decide +kernel) rfl
theorem zw_1094 : (fieldLink "Tidewater$Network" (68 : Nat) "Tidewater$Packet" "fate" "I") ∈ z_ws := z_wt 1094 (by decide +kernel) rfl
theorem zw_1095 : (fieldLink "Tidewater$Server" (104 : Nat) "Tidewater$Packet" "fate" "I") ∈ z_ws := z_wt 1095 (by decide +kernel) rfl
theorem zw_1096 : (fieldLink "Tidewater" (250 : Nat) "Tidewater$Packet" "fate" "I") ∈ z_ws := z_wt 1096 (by decide +kernel) rfl
theorem zw_1097 : (fieldLink "Tidewater$Route" (76 : Nat) "Tidewater$Packet" "place" "I") ∈ z_ws := z_wt 1097 (by decide +kernel) rfl
theorem zw_1098 : (fieldLink "Tidewater$Client" (260 : Nat) "Tidewater$Packet" "place" "I") ∈ z_ws := z_wt 1098 (by decide +kernel) rfl
theorem zw_1099 : (fieldLink "Tidewater$Client" (248 : Nat) "Tidewater$Packet" "deliveredBefore" "I") ∈ z_ws := z_wt 1099 (by decide +kernel) rfl
theorem zw_1129 : (methodLink "Tidewater$Client" (353 : Nat) ({ cls := "Tidewater$Stream", name := "takeOff", desc := "(II)V" } : Jvm.MethodName)) ∈ z_ws := z_wt 1129 (by decide +kernel) rfl
theorem zw_1130 : (instanceMethod ({ cls := "Tidewater$Stream", name := "takeOff", desc := "(II)V" } : Jvm.MethodName)) ∈ z_ws := z_wt 1130 (by decide +kernel) rfl
theorem zw_1131 : (selects "Tidewater$Stream" ({ cls := "Tidewater$Stream", name := "takeOff", desc := "(II)V" } : Jvm.MethodName) ({ cls := "Tidewater$Stream", name := "takeOff", desc := "(II)V" } : Jvm.MethodName)) ∈ z_ws := z_wt 1131 (by decide +kernel) rfl
theorem zw_1132 : (code ({ cls := "Tidewater$Stream", name := "takeOff", desc := "(II)V" } : Jvm.MethodName) prog_11_method_6_code (4 : Nat) (Option.none : Option FieldType)) ∈ z_ws := z_wt 1132 (by decide +kernel) rfl
theorem zw_1133 : (methodLink "Tidewater" (168 : Nat) ({ cls := "Tidewater$Client", name := "sendData", desc := "()V" } : Jvm.MethodName)) ∈ z_ws := z_wt 1133 (by decide +kernel) rfl
theorem zw_1134 : (instanceMethod ({ cls := "Tidewater$Client", name := "sendData", desc := "()V" } : Jvm.MethodName)) ∈ z_ws := z_wt 1134 (by decide +kernel) rfl
theorem zw_1135 : (selects "Tidewater$Client" ({ cls := "Tidewater$Client", name := "sendData", desc := "()V" } : Jvm.MethodName) ({ cls := "Tidewater$Client", name := "sendData", desc := "()V" } : Jvm.MethodName)) ∈ z_ws := z_wt 1135 (by decide +kernel) rfl
theorem zw_1136 : (code ({ cls := "Tidewater$Client", name := "sendData", desc := "()V" } : Jvm.MethodName) prog_3_method_21_code (3 : Nat) (Option.none : Option FieldType)) ∈ z_ws := z_wt 1136 (by decide +kernel) rfl
theorem zw_1137 : (methodLink "Tidewater$Client" (312 : Nat) ({ cls := "Tidewater$Client", name := "routeToSend", desc := "()LTidewater$Route;" } : Jvm.MethodName)) ∈ z_ws := z_wt 1137 (by decide +kernel) rfl
theorem zw_1139 : (instanceMethod ({ cls := "Tidewater$Client", name := "routeToSend", desc := "()LTidewater$Route;" } : Jvm.MethodName)) ∈ z_ws := z_wt 1139 (by decide +kernel) rfl
theorem zw_1140 : (code ({ cls := "Tidewater$Client", name := "routeToSend", desc := "()LTidewater$Route;" } : Jvm.MethodName) prog_3_method_22_code (3 : Nat) (Option.some (FieldType.object "Tidewater$Route"))) ∈ z_ws := z_wt 1140 (by decide +kernel) rfl
theorem zw_1141 : (methodLink "Tidewater$Client" (323 : Nat) ({ cls := "Tidewater$Route", name := "canSend", desc := "()Z" } : Jvm.MethodName)) ∈ z_ws := z_wt 1141 (by decide +kernel) rfl
theorem zw_1142 : (instanceMethod ({ cls := "Tidewater$Route", name := "canSend", desc := "()Z" } : Jvm.MethodName)) ∈ z_ws := z_wt 1142 (by decide +kernel) rfl
theorem zw_1143 : (selects "Tidewater$Route" ({ cls := "Tidewater$Route", name := "canSend", desc := "()Z" } : Jvm.MethodName) ({ cls := "Tidewater$Route", name := "canSend", desc := "()Z" } : Jvm.MethodName)) ∈ z_ws := z_wt 1143 (by decide +kernel) rfl
theorem zw_1144 : (code ({ cls := "Tidewater$Route", name := "canSend", desc := "()Z" } : Jvm.MethodName) prog_9_method_3_code (1 : Nat) (Option.some FieldType.boolean)) ∈ z_ws := z_wt 1144 (by decide +kernel) rfl
theorem zw_1145 : (methodLink "Tidewater$Route" (63 : Nat) ({ cls := "Tidewater$Route", name := "mostPerTick", desc := "()I" } : Jvm.MethodName)) ∈ z_ws := z_wt 1145 (by decide +kernel) rfl
theorem zw_1147 : (instanceMethod ({ cls := "Tidewater$Route", name := "mostPerTick", desc := "()I" } : Jvm.MethodName)) ∈ z_ws := z_wt 1147 (by decide +kernel) rfl
theorem zw_1148 : (code ({ cls := "Tidewater$Route", name := "mostPerTick", desc := "()I" } : Jvm.MethodName) prog_9_method_4_code (3 : Nat) (Option.some FieldType.int)) ∈ z_ws := z_wt 1148 (by decide +kernel) rfl
theorem zw_1149 : (methodLink "Tidewater$Client" (316 : Nat) ({ cls := "Tidewater$Client", name := "sendLost", desc := "(LTidewater$Route;)Z" } : Jvm.MethodName)) ∈ z_ws := z_wt 1149 (by decide +kernel) rfl
theorem zw_1151 : (instanceMethod ({ cls := "Tidewater$Client", name := "sendLost", desc := "(LTidewater$Route;)Z" } : Jvm.MethodName)) ∈ z_ws := z_wt 1151 (by decide +kernel) rfl
theorem zw_1152 : (code ({ cls := "Tidewater$Client", name := "sendLost", desc := "(LTidewater$Route;)Z" } : Jvm.MethodName) prog_3_method_23_code (4 : Nat) (Option.some FieldType.boolean)) ∈ z_ws := z_wt 1152 (by decide +kernel) rfl
theorem zw_1153 : (methodLink "Tidewater$Client" (330 : Nat) ({ cls := "Tidewater$Stream", name := "lowestLost", desc := "()I" } : Jvm.MethodName)) ∈ z_ws := z_wt 1153 (by decide +kernel) rfl
theorem zw_1154 : (instanceMethod ({ cls := "Tidewater$Stream", name := "lowestLost", desc := "()I" } : Jvm.MethodName)) ∈ z_ws := z_wt 1154 (by decide +kernel) rfl
theorem zw_1155 : (selects "Tidewater$Stream" ({ cls := "Tidewater$Stream", name := "lowestLost", desc := "()I" } : Jvm.MethodName) ({ cls := "Tidewater$Stream", name := "lowestLost", desc := "()I" } : Jvm.MethodName)) ∈ z_ws := z_wt 1155 (by decide +kernel) rfl
theorem zw_1156 : (code ({ cls := "Tidewater$Stream", name := "lowestLost", desc := "()I" } : Jvm.MethodName) prog_11_method_3_code (2 : Nat) (Option.some FieldType.int)) ∈ z_ws := z_wt 1156 (by decide +kernel) rfl
theorem zw_1157 : (methodLink "Tidewater$Client" (333 : Nat) ({ cls := "Tidewater$Stream", name := "lostInARow", desc := "(I)I" } : Jvm.MethodName)) ∈ z_ws := z_wt 1157 (by decide +kernel) rfl
theorem zw_1158 : (instanceMethod ({ cls := "Tidewater$Stream", name := "lostInARow", desc := "(I)I" } : Jvm.MethodName)) ∈ z_ws := z_wt 1158 (by decide +kernel) rfl
theorem zw_1159 : (selects "Tidewater$Stream" ({ cls := "Tidewater$Stream", name := "lostInARow", desc := "(I)I" } : Jvm.MethodName) ({ cls := "Tidewater$Stream", name := "lostInARow", desc := "(I)I" } : Jvm.MethodName)) ∈ z_ws := z_wt 1159 (by decide +kernel) rfl
theorem zw_1160 : (code ({ cls := "Tidewater$Stream", name := "lostInARow", desc := "(I)I" } : Jvm.MethodName) prog_11_method_4_code (3 : Nat) (Option.some FieldType.int)) ∈ z_ws := z_wt 1160 (by decide +kernel) rfl
theorem zw_1161 : (methodLink "Tidewater$Client" (320 : Nat) ({ cls := "Tidewater$Client", name := "sendNew", desc := "(LTidewater$Route;)Z" } : Jvm.MethodName)) ∈ z_ws := z_wt 1161 (by decide +kernel) rfl
theorem zw_1163 : (instanceMethod ({ cls := "Tidewater$Client", name := "sendNew", desc := "(LTidewater$Route;)Z" } : Jvm.MethodName)) ∈ z_ws := z_wt 1163 (by decide +kernel) rfl
theorem zw_1164 : (code ({ cls := "Tidewater$Client", name := "sendNew", desc := "(LTidewater$Route;)Z" } : Jvm.MethodName) prog_3_method_24_code (6 : Nat) (Option.some FieldType.boolean)) ∈ z_ws := z_wt 1164 (by decide +kernel) rfl
theorem zw_1165 : (methodLink "Tidewater$Client" (338 : Nat) ({ cls := "Tidewater$Stream", name := "canSendAnew", desc := "(I)I" } : Jvm.MethodName)) ∈ z_ws := z_wt 1165 (by decide +kernel) rfl
theorem zw_1166 : (instanceMethod ({ cls := "Tidewater$Stream", name := "canSendAnew", desc := "(I)I" } : Jvm.MethodName)) ∈ z_ws := z_wt 1166 (by decide +kernel) rfl
theorem zw_1167 : (selects "Tidewater$Stream" ({ cls := "Tidewater$Stream", name := "canSendAnew", desc := "(I)I" } : Jvm.MethodName) ({ cls := "Tidewater$Stream", name := "canSendAnew", desc := "(I)I" } : Jvm.MethodName)) ∈ z_ws := z_wt 1167 (by decide +kernel) rfl
theorem zw_1168 : (code ({ cls := "Tidewater$Stream", name := "canSendAnew", desc := "(I)I" } : Jvm.MethodName) prog_11_method_5_code (3 : Nat) (Option.some FieldType.int)) ∈ z_ws := z_wt 1168 (by decide +kernel) rfl
theorem zw_1169 : (methodLink "Tidewater$Stream" (36 : Nat) ({ cls := "java/lang/Math", name := "min", desc := "(II)I" } : Jvm.MethodName)) ∈ z_ws := z_wt 1169 (by decide +kernel) rfl
theorem zw_1170 : (methodLink "Tidewater" (171 : Nat) ({ cls := "Tidewater$Network", name := "letLeave", desc := "()V" } : Jvm.MethodName)) ∈ z_ws := z_wt 1170 (by decide +kernel) rfl
theorem zw_1171 : (instanceMethod ({ cls := "Tidewater$Network", name := "letLeave", desc := "()V" } : Jvm.MethodName)) ∈ z_ws := z_wt 1171 (by decide +kernel) rfl
theorem zw_1172 : (selects "Tidewater$Network" ({ cls := "Tidewater$Network", name := "letLeave", desc := "()V" } : Jvm.MethodName) ({ cls := "Tidewater$Network", name := "letLeave", desc := "()V" } : Jvm.MethodName)) ∈ z_ws := z_wt 1172 (by decide +kernel) rfl
theorem zw_1173 : (code ({ cls := "Tidewater$Network", name := "letLeave", desc := "()V" } : Jvm.MethodName) prog_7_method_6_code (1 : Nat) (Option.none : Option FieldType)) ∈ z_ws := z_wt 1173 (by decide +kernel) rfl
theorem zw_1174 : (methodLink "Tidewater$Network" (90 : Nat) ({ cls := "Tidewater$Network", name := "letLeaveLane", desc := "(LTidewater$Lane;)V" } : Jvm.MethodName)) ∈ z_ws := z_wt 1174 (by decide +kernel) rfl
theorem zw_1176 : (instanceMethod ({ cls := "Tidewater$Network", name := "letLeaveLane", desc := "(LTidewater$Lane;)V" } : Jvm.MethodName)) ∈ z_ws := z_wt 1176 (by decide +kernel) rfl
theorem zw_1177 : (code ({ cls := "Tidewater$Network", name := "letLeaveLane", desc := "(LTidewater$Lane;)V" } : Jvm.MethodName) prog_7_method_7_code (4 : Nat) (Option.none : Option FieldType)) ∈ z_ws := z_wt 1177 (by decide +kernel) rfl
theorem zw_1178 : (methodLink "Tidewater$Network" (97 : Nat) ({ cls := "Tidewater$Lane", name := "removeFirst", desc := "()LTidewater$Message;" } : Jvm.MethodName)) ∈ z_ws := z_wt 1178 (by decide +kernel) rfl
theorem zw_1179 : (instanceMethod ({ cls := "Tidewater$Lane", name := "removeFirst", desc := "()LTidewater$Message;" } : Jvm.MethodName)) ∈ z_ws := z_wt 1179 (by decide +kernel) rfl
theorem zw_1180 : (selects "Tidewater$Lane" ({ cls := "Tidewater$Lane", name := "removeFirst", desc := "()LTidewater$Message;" } : Jvm.MethodName) ({ cls := "Tidewater$Lane", name := "removeFirst", desc := "()LTidewater$Message;" } : Jvm.MethodName)) ∈ z_ws := z_wt 1180 (by decide +kernel) rfl
theorem zw_1181 : (code ({ cls := "Tidewater$Lane", name := "removeFirst", desc := "()LTidewater$Message;" } : Jvm.MethodName) prog_5_method_6_code (2 : Nat) (Option.some (FieldType.object "Tidewater$Message"))) ∈ z_ws := z_wt 1181 (by decide +kernel) rfl
theorem zw_1182 : (methodLink "Tidewater$Network" (104 : Nat) ({ cls := "Tidewater$Lane", name := "takeLateness", desc := "()I" } : Jvm.MethodName)) ∈ z_ws := z_wt 1182 (by decide +kernel) rfl
theorem zw_1183 : (instanceMethod ({ cls := "Tidewater$Lane", name := "takeLateness", desc := "()I" } : Jvm.MethodName)) ∈ z_ws := z_wt 1183 (by decide +kernel) rfl
theorem zw_1184 : (selects "Tidewater$Lane" ({ cls := "Tidewater$Lane", name := "takeLateness", desc := "()I" } : Jvm.MethodName) ({ cls := "Tidewater$Lane", name := "takeLateness", desc := "()I" } : Jvm.MethodName)) ∈ z_ws := z_wt 1184 (by decide +kernel) rfl
theorem zw_1185 : (code ({ cls := "Tidewater$Lane", name := "takeLateness", desc := "()I" } : Jvm.MethodName) prog_5_method_7_code (1 : Nat) (Option.some FieldType.int)) ∈ z_ws := z_wt 1185 (by decide +kernel) rfl
theorem zw_1186 : (methodLink "TidewaterLaw" (159 : Nat) ({ cls := "TidewaterLaw", name := "state", desc := "(LTidewater;I[J)I" } : Jvm.MethodName)) ∈ z_ws := z_wt 1186 (by decide +kernel) rfl
theorem zw_1187 : (static ({ cls := "TidewaterLaw", name := "state", desc := "(LTidewater;I[J)I" } : Jvm.MethodName)) ∈ z_ws := z_wt 1187 (by decide +kernel) rfl
theorem zw_1188 : (codeWith ({ cls := "TidewaterLaw", name := "state", desc := "(LTidewater;I[J)I" } : Jvm.MethodName) method_17_code (4 : Nat) (Option.some FieldType.int) [((0 : Nat), (9 : Nat), (12 : Nat), (15 : Nat))]) ∈ z_ws := z_wt 1188 (by decide +kernel) rfl
theorem zw_1189 : (methodLink "TidewaterLaw" (65 : Nat) ({ cls := "Tidewater", name := "state", desc := "(I)I" } : Jvm.MethodName)) ∈ z_ws := z_wt 1189 (by decide +kernel) rfl
theorem zw_1190 : (instanceMethod ({ cls := "Tidewater", name := "state", desc := "(I)I" } : Jvm.MethodName)) ∈ z_ws := z_wt 1190 (by decide +kernel) rfl
theorem zw_1191 : (selects "Tidewater" ({ cls := "Tidewater", name := "state", desc := "(I)I" } : Jvm.MethodName) ({ cls := "Tidewater", name := "state", desc := "(I)I" } : Jvm.MethodName)) ∈ z_ws := z_wt 1191 (by decide +kernel) rfl
theorem zw_1192 : (code ({ cls := "Tidewater", name := "state", desc := "(I)I" } : Jvm.MethodName) prog_1_method_19_code (2 : Nat) (Option.some FieldType.int)) ∈ z_ws := z_wt 1192 (by decide +kernel) rfl
theorem zw_1193 : (methodLink "TidewaterLaw" (162 : Nat) ({ cls := "TidewaterLaw", name := "path", desc := "(LTidewater;II[J)I" } : Jvm.MethodName)) ∈ z_ws := z_wt 1193 (by decide +kernel) rfl
theorem zw_1194 : (static ({ cls := "TidewaterLaw", name := "path", desc := "(LTidewater;II[J)I" } : Jvm.MethodName)) ∈ z_ws := z_wt 1194 (by decide +kernel) rfl
theorem zw_1195 : (codeWith ({ cls := "TidewaterLaw", name := "path", desc := "(LTidewater;II[J)I" } : Jvm.MethodName) method_18_code (5 : Nat) (Option.some FieldType.int) [((0 : Nat), (10 : Nat), (13 : Nat), (13 : Nat)), ((0 : Nat), (10 : Nat), (17 : Nat), (15 : Nat))]) ∈ z_ws := z_wt 1195 (by decide +kernel) rfl
theorem zw_1196 : (methodLink "TidewaterLaw" (68 : Nat) ({ cls := "Tidewater", name := "path", desc := "(II)I" } : Jvm.MethodName)) ∈ z_ws := z_wt 1196 (by decide +kernel) rfl
theorem zw_1197 : (instanceMethod ({ cls := "Tidewater", name := "path", desc := "(II)I" } : Jvm.MethodName)) ∈ z_ws := z_wt 1197 (by decide +kernel) rfl
theorem zw_1198 : (selects "Tidewater" ({ cls := "Tidewater", name := "path", desc := "(II)I" } : Jvm.MethodName) ({ cls := "Tidewater", name := "path", desc := "(II)I" } : Jvm.MethodName)) ∈ z_ws := z_wt 1198 (by decide +kernel) rfl
theorem zw_1199 : (code ({ cls := "Tidewater", name := "path", desc := "(II)I" } : Jvm.MethodName) prog_1_method_20_code (4 : Nat) (Option.some FieldType.int)) ∈ z_ws := z_wt 1199 (by decide +kernel) rfl
theorem zw_1200 : (methodLink "Tidewater" (197 : Nat) ({ cls := "Tidewater", name := "asNumber", desc := "(Z)I" } : Jvm.MethodName)) ∈ z_ws := z_wt 1200 (by decide +kernel) rfl
theorem zw_1201 : (static ({ cls := "Tidewater", name := "asNumber", desc := "(Z)I" } : Jvm.MethodName)) ∈ z_ws := z_wt 1201 (by decide +kernel) rfl
theorem zw_1202 : (code ({ cls := "Tidewater", name := "asNumber", desc := "(Z)I" } : Jvm.MethodName) prog_1_method_33_code (1 : Nat) (Option.some FieldType.int)) ∈ z_ws := z_wt 1202 (by decide +kernel) rfl
theorem zw_1203 : (methodLink "TidewaterLaw" (165 : Nat) ({ cls := "TidewaterLaw", name := "stream", desc := "(LTidewater;II[J)I" } : Jvm.MethodName)) ∈ z_ws := z_wt 1203 (by decide +kernel) rfl
theorem zw_1204 : (static ({ cls := "TidewaterLaw", name := "stream", desc := "(LTidewater;II[J)I" } : Jvm.MethodName)) ∈ z_ws := z_wt 1204 (by decide +kernel) rfl
theorem zw_1205 : (codeWith ({ cls := "TidewaterLaw", name := "stream", desc := "(LTidewater;II[J)I" } : Jvm.MethodName) method_19_code (5 : Nat) (Option.some FieldType.int) [((0 : Nat), (10 : Nat), (13 : Nat), (13 : Nat)), ((0 : Nat), (10 : Nat), (17 : Nat), (15 : Nat))]) ∈ z_ws := z_wt 1205 (by decide +kernel) rfl
theorem zw_1206 : (methodLink "TidewaterLaw" (71 : Nat) ({ cls := "Tidewater", name := "stream", desc := "(II)I" } : Jvm.MethodName)) ∈ z_ws := z_wt 1206 (by decide +kernel) rfl
theorem zw_1207 : (instanceMethod ({ cls := "Tidewater", name := "stream", desc := "(II)I" } : Jvm.MethodName)) ∈ z_ws := z_wt 1207 (by decide +kernel) rfl
theorem zw_1208 : (selects "Tidewater" ({ cls := "Tidewater", name := "stream", desc := "(II)I" } : Jvm.MethodName) ({ cls := "Tidewater", name := "stream", desc := "(II)I" } : Jvm.MethodName)) ∈ z_ws := z_wt 1208 (by decide +kernel) rfl
theorem zw_1209 : (code ({ cls := "Tidewater", name := "stream", desc := "(II)I" } : Jvm.MethodName) prog_1_method_21_code (4 : Nat) (Option.some FieldType.int)) ∈ z_ws := z_wt 1209 (by decide +kernel) rfl
theorem zw_1210 : (methodLink "TidewaterLaw" (176 : Nat) ({ cls := "TidewaterLaw", name := "packet", desc := "(LTidewater;II[J)I" } : Jvm.MethodName)) ∈ z_ws := z_wt 1210 (by decide +kernel) rfl
theorem zw_1211 : (static ({ cls := "TidewaterLaw", name := "packet", desc := "(LTidewater;II[J)I" } : Jvm.MethodName)) ∈ z_ws := z_wt 1211 (by decide +kernel) rfl
theorem zw_1212 : (codeWith ({ cls := "TidewaterLaw", name := "packet", desc := "(LTidewater;II[J)I" } : Jvm.MethodName) method_20_code (5 : Nat) (Option.some FieldType.int) [((0 : Nat), (10 : Nat), (13 : Nat), (13 : Nat)), ((0 : Nat), (10 : Nat), (17 : Nat), (15 : Nat))]) ∈ z_ws := z_wt 1212 (by decide +kernel) rfl
theorem zw_1213 : (methodLink "TidewaterLaw" (74 : Nat) ({ cls := "Tidewater", name := "packet", desc := "(II)I" } : Jvm.MethodName)) ∈ z_ws := z_wt 1213 (by decide +kernel) rfl
theorem zw_1214 : (instanceMethod ({ cls := "Tidewater", name := "packet", desc := "(II)I" } : Jvm.MethodName)) ∈ z_ws := z_wt 1214 (by decide +kernel) rfl
theorem zw_1215 : (selects "Tidewater" ({ cls := "Tidewater", name := "packet", desc := "(II)I" } : Jvm.MethodName) ({ cls := "Tidewater", name := "packet", desc := "(II)I" } : Jvm.MethodName)) ∈ z_ws := z_wt 1215 (by decide +kernel) rfl
theorem zw_1216 : (code ({ cls := "Tidewater", name := "packet", desc := "(II)I" } : Jvm.MethodName) prog_1_method_24_code (4 : Nat) (Option.some FieldType.int)) ∈ z_ws := z_wt 1216 (by decide +kernel) rfl
theorem zw_1217 : (methodLink "Tidewater" (226 : Nat) ({ cls := "Tidewater", name := "requirePacket", desc := "(I)LTidewater$Packet;" } : Jvm.MethodName)) ∈ z_ws := z_wt 1217 (by decide +kernel) rfl
theorem zw_1219 : (instanceMethod ({ cls := "Tidewater", name := "requirePacket", desc := "(I)LTidewater$Packet;" } : Jvm.MethodName)) ∈ z_ws := z_wt 1219 (by decide +kernel) rfl
theorem zw_1220 : (code ({ cls := "Tidewater", name := "requirePacket", desc := "(I)LTidewater$Packet;" } : Jvm.MethodName) prog_1_method_28_code (3 : Nat) (Option.some (FieldType.object "Tidewater$Packet"))) ∈ z_ws := z_wt 1220 (by decide +kernel) rfl
theorem zw_1221 : (methodLink "Tidewater" (281 : Nat) ({ cls := "Tidewater$Client", name := "packetAt", desc := "(I)LTidewater$Packet;" } : Jvm.MethodName)) ∈ z_ws := z_wt 1221 (by decide +kernel) rfl
theorem zw_1223 : (methodLink "TidewaterLaw" (179 : Nat) ({ cls := "TidewaterLaw", name := "count", desc := "(LTidewater;I[J)I" } : Jvm.MethodName)) ∈ z_ws := z_wt 1223 (by decide +kernel) rfl
theorem zw_1224 : (static ({ cls := "TidewaterLaw", name := "count", desc := "(LTidewater;I[J)I" } : Jvm.MethodName)) ∈ z_ws := z_wt 1224 (by decide +kernel) rfl
theorem zw_1225 : (codeWith ({ cls := "TidewaterLaw", name := "count", desc := "(LTidewater;I[J)I" } : Jvm.MethodName) method_21_code (4 : Nat) (Option.some FieldType.int) [((0 : Nat), (9 : Nat), (12 : Nat), (15 : Nat))]) ∈ z_ws := z_wt 1225 (by decide +kernel) rfl
theorem zw_1226 : (methodLink "TidewaterLaw" (77 : Nat) ({ cls := "Tidewater", name := "count", desc := "(I)I" } : Jvm.MethodName)) ∈ z_ws := z_wt 1226 (by decide +kernel) rfl
theorem zw_1227 : (instanceMethod ({ cls := "Tidewater", name := "count", desc := "(I)I" } : Jvm.MethodName)) ∈ z_ws := z_wt 1227 (by decide +kernel) rfl
theorem zw_1228 : (selects "Tidewater" ({ cls := "Tidewater", name := "count", desc := "(I)I" } : Jvm.MethodName) ({ cls := "Tidewater", name := "count", desc := "(I)I" } : Jvm.MethodName)) ∈ z_ws := z_wt 1228 (by decide +kernel) rfl
theorem zw_1229 : (code ({ cls := "Tidewater", name := "count", desc := "(I)I" } : Jvm.MethodName) prog_1_method_25_code (4 : Nat) (Option.some FieldType.int)) ∈ z_ws := z_wt 1229 (by decide +kernel) rfl
theorem zw_1230 : (methodLink "TidewaterLaw" (182 : Nat) ({ cls := "TidewaterLaw", name := "inFlightAnew", desc := "(LTidewater;I[J)I" } : Jvm.MethodName)) ∈ z_ws := z_wt 1230 (by decide +kernel) rfl
theorem zw_1231 : (static ({ cls := "TidewaterLaw", name := "inFlightAnew", desc := "(LTidewater;I[J)I" } : Jvm.MethodName)) ∈ z_ws := z_wt 1231 (by decide +kernel) rfl
theorem zw_1232 : (codeWith ({ cls := "TidewaterLaw", name := "inFlightAnew", desc := "(LTidewater;I[J)I" } : Jvm.MethodName) method_22_code (4 : Nat) (Option.some FieldType.int) [((0 : Nat), (9 : Nat), (12 : Nat), (13 : Nat))]) ∈ z_ws := z_wt 1232 (by decide +kernel) rfl
theorem zw_1233 : (methodLink "TidewaterLaw" (80 : Nat) ({ cls := "Tidewater", name := "inFlightAnew", desc := "(I)I" } : Jvm.MethodName)) ∈ z_ws := z_wt 1233 (by decide +kernel) rfl
theorem zw_1234 : (instanceMethod ({ cls := "Tidewater", name := "inFlightAnew", desc := "(I)I" } : Jvm.MethodName)) ∈ z_ws := z_wt 1234 (by decide +kernel) rfl
theorem zw_1235 : (selects "Tidewater" ({ cls := "Tidewater", name := "inFlightAnew", desc := "(I)I" } : Jvm.MethodName) ({ cls := "Tidewater", name := "inFlightAnew", desc := "(I)I" } : Jvm.MethodName)) ∈ z_ws := z_wt 1235 (by decide +kernel) rfl
theorem zw_1236 : (code ({ cls := "Tidewater", name := "inFlightAnew", desc := "(I)I" } : Jvm.MethodName) prog_1_method_26_code (5 : Nat) (Option.some FieldType.int)) ∈ z_ws := z_wt 1236 (by decide +kernel) rfl
theorem zw_1237 : (methodLink "TidewaterLaw" (185 : Nat) ({ cls := "TidewaterLaw", name := "gotAnew", desc := "(LTidewater;I[J)I" } : Jvm.MethodName)) ∈ z_ws := z_wt 1237 (by decide +kernel) rfl
theorem zw_1238 : (static ({ cls := "TidewaterLaw", name := "gotAnew", desc := "(LTidewater;I[J)I" } : Jvm.MethodName)) ∈ z_ws := z_wt 1238 (by decide +kernel) rfl
theorem zw_1239 : (codeWith ({ cls := "TidewaterLaw", name := "gotAnew", desc := "(LTidewater;I[J)I" } : Jvm.MethodName) method_23_code (4 : Nat) (Option.some FieldType.int) [((0 : Nat), (9 : Nat), (12 : Nat), (13 : Nat))]) ∈ z_ws := z_wt 1239 (by decide +kernel) rfl
theorem zw_1240 : (methodLink "TidewaterLaw" (83 : Nat) ({ cls := "Tidewater", name := "gotAnew", desc := "(I)I" } : Jvm.MethodName)) ∈ z_ws := z_wt 1240 (by decide +kernel) rfl
theorem zw_1241 : (instanceMethod ({ cls := "Tidewater", name := "gotAnew", desc := "(I)I" } : Jvm.MethodName)) ∈ z_ws := z_wt 1241 (by decide +kernel) rfl
theorem zw_1242 : (selects "Tidewater" ({ cls := "Tidewater", name := "gotAnew", desc := "(I)I" } : Jvm.MethodName) ({ cls := "Tidewater", name := "gotAnew", desc := "(I)I" } : Jvm.MethodName)) ∈ z_ws := z_wt 1242 (by decide +kernel) rfl
theorem zw_1243 : (code ({ cls := "Tidewater", name := "gotAnew", desc := "(I)I" } : Jvm.MethodName) prog_1_method_27_code (4 : Nat) (Option.some FieldType.int)) ∈ z_ws := z_wt 1243 (by decide +kernel) rfl
theorem zw_1244 : (methodLink "Tidewater" (284 : Nat) ({ cls := "Tidewater", name := "clearRow", desc := "([Z)V" } : Jvm.MethodName)) ∈ z_ws := z_wt 1244 (by decide +kernel) rfl
theorem zw_1245 : (methodLink "Tidewater" (288 : Nat) ({ cls := "Tidewater", name := "markRow", desc := "([ZII)V" } : Jvm.MethodName)) ∈ z_ws := z_wt 1245 (by decide +kernel) rfl
theorem zw_1246 : (methodLink "Tidewater" (292 : Nat) ({ cls := "Tidewater", name := "lengthOfPrefix", desc := "([ZI)I" } : Jvm.MethodName)) ∈ z_ws := z_wt 1246 (by decide +kernel) rfl
theorem zw_1247 : (classLink "TidewaterLaw" (87 : Nat) "TidewaterModel") ∈ z_ws := z_wt 1247 (by decide +kernel) rfl
theorem zw_1248 : (instantiable "TidewaterModel" (95 : Nat)) ∈ z_ws := z_wt 1248 (by decide +kernel) rfl
theorem zw_1249 : (methodLink "TidewaterLaw" (89 : Nat) ({ cls := "TidewaterModel", name := "<init>", desc := "()V" } : Jvm.MethodName)) ∈ z_ws := z_wt 1249 (by decide +kernel) rfl
theorem zw_1250 : (instanceMethod ({ cls := "TidewaterModel", name := "<init>", desc := "()V" } : Jvm.MethodName)) ∈ z_ws := z_wt 1250 (by decide +kernel) rfl
theorem zw_1251 : (code ({ cls := "TidewaterModel", name := "<init>", desc := "()V" } : Jvm.MethodName) prog_14_method_1_code (2 : Nat) (Option.none : Option FieldType)) ∈ z_ws := z_wt 1251 (by decide +kernel) rfl
theorem zw_1252 : (methodLink "TidewaterModel" (1 : Nat) ({ cls := "java/lang/Object", name := "<init>", desc := "()V" } : Jvm.MethodName)) ∈ z_ws := z_wt 1252 (by decide +kernel) rfl
theorem zw_1253 : (constant "TidewaterModel" (71 : Nat) (54000 : Int32)) ∈ z_ws := z_wt 1253 (by decide +kernel) rfl
theorem zw_1254 : (constant "TidewaterModel" (232 : Nat) (999999 : Int32)) ∈ z_ws := z_wt 1254 (by decide +kernel) rfl
theorem zw_1255 : (fieldLink "TidewaterModel" (246 : Nat) "TidewaterModel" "now" "I") ∈ z_ws := z_wt 1255 (by decide +kernel) rfl
theorem zw_1256 : (fieldLink "TidewaterModel" (7 : Nat) "TidewaterModel" "delays" "[I") ∈ z_ws := z_wt 1256 (by decide +kernel) rfl
theorem zw_1257 : (fieldLink "TidewaterModel" (13 : Nat) "TidewaterModel" "rates" "[I") ∈ z_ws := z_wt 1257 (by decide +kernel) rfl
theorem zw_1258 : (fieldLink "TidewaterModel" (16 : Nat) "TidewaterModel" "rooms" "[I") ∈ z_ws := z_wt 1258 (by decide +kernel) rfl
theorem zw_1259 : (fieldLink "TidewaterModel" (19 : Nat) "TidewaterModel" "marks" "[I") ∈ z_ws := z_wt 1259 (by decide +kernel) rfl
theorem zw_1260 : (fieldLink "TidewaterModel" (22 : Nat) "TidewaterModel" "downs" "[Z") ∈ z_ws := z_wt 1260 (by decide +kernel) rfl
theorem zw_1261 : (fieldLink "TidewaterModel" (26 : Nat) "TidewaterModel" "loseServer" "[I") ∈ z_ws := z_wt 1261 (by decide +kernel) rfl
theorem zw_1262 : (fieldLink "TidewaterModel" (29 : Nat) "TidewaterModel" "loseClient" "[I") ∈ z_ws := z_wt 1262 (by decide +kernel) rfl
theorem zw_1263 : (fieldLink "TidewaterModel" (32 : Nat) "TidewaterModel" "lateMany" "[I") ∈ z_ws := z_wt 1263 (by decide +kernel) rfl
theorem zw_1264 : (fieldLink "TidewaterModel" (35 : Nat) "TidewaterModel" "lateBy" "[I") ∈ z_ws := z_wt 1264 (by decide +kernel) rfl
theorem zw_1265 : (fieldLink "TidewaterModel" (38 : Nat) "TidewaterModel" "queues" "[I") ∈ z_ws := z_wt 1265 (by decide +kernel) rfl
theorem zw_1266 : (fieldLink "TidewaterModel" (41 : Nat) "TidewaterModel" "queued" "[I") ∈ z_ws := z_wt 1266 (by decide +kernel) rfl
theorem zw_1267 : (fieldLink "TidewaterModel" (44 : Nat) "TidewaterModel" "sorts" "[I") ∈ z_ws := z_wt 1267 (by decide +kernel) rfl
theorem zw_1268 : (fieldLink "TidewaterModel" (47 : Nat) "TidewaterModel" "infos" "[I") ∈ z_ws := z_wt 1268 (by decide +kernel) rfl
theorem zw_1269 : (fieldLink "TidewaterModel" (50 : Nat) "TidewaterModel" "thingPaths" "[I") ∈ z_ws := z_wt 1269 (by decide +kernel) rfl
theorem zw_1270 : (fieldLink "TidewaterModel" (240 : Nat) "TidewaterModel" "things" "I") ∈ z_ws := z_wt 1270 (by decide +kernel) rfl
theorem zw_1271 : (fieldLink "TidewaterModel" (53 : Nat) "TidewaterModel" "leftThings" "[I") ∈ z_ws := z_wt 1271 (by decide +kernel) rfl
theorem zw_1272 : (fieldLink "TidewaterModel" (56 : Nat) "TidewaterModel" "leftTicks" "[I") ∈ z_ws := z_wt 1272 (by decide +kernel) rfl
theorem zw_1273 : (fieldLink "TidewaterModel" (257 : Nat) "TidewaterModel" "left" "I") ∈ z_ws := z_wt 1273 (by decide +kernel) rfl
theorem zw_1274 : (fieldLink "TidewaterModel" (59 : Nat) "TidewaterModel" "answerSorts" "[I") ∈ z_ws := z_wt 1274 (by decide +kernel) rfl
theorem zw_1275 : (fieldLink "TidewaterModel" (62 : Nat) "TidewaterModel" "answerInfos" "[I") ∈ z_ws := z_wt 1275 (by decide +kernel) rfl
theorem zw_1276 : (fieldLink "TidewaterModel" (65 : Nat) "TidewaterModel" "answerPaths" "[I") ∈ z_ws := z_wt 1276 (by decide +kernel) rfl
theorem zw_1277 : (fieldLink "TidewaterModel" (68 : Nat) "TidewaterModel" "answerTicks" "[I") ∈ z_ws := z_wt 1277 (by decide +kernel) rfl
theorem zw_1278 : (fieldLink "TidewaterModel" (243 : Nat) "TidewaterModel" "answers" "I") ∈ z_ws := z_wt 1278 (by decide +kernel) rfl
theorem zw_1279 : (fieldLink "TidewaterModel" (72 : Nat) "TidewaterModel" "tolds" "[I") ∈ z_ws := z_wt 1279 (by decide +kernel) rfl
theorem zw_1280 : (fieldLink "TidewaterModel" (260 : Nat) "TidewaterModel" "tells" "I") ∈ z_ws := z_wt 1280 (by decide +kernel) rfl
theorem zw_1281 : (fieldLink "TidewaterModel" (278 : Nat) "TidewaterModel" "server" "I") ∈ z_ws := z_wt 1281 (by decide +kernel) rfl
theorem zw_1282 : (fieldLink "TidewaterModel" (295 : Nat) "TidewaterModel" "asksCookies" "Z") ∈ z_ws := z_wt 1282 (by decide +kernel) rfl
theorem zw_1283 : (fieldLink "TidewaterModel" (281 : Nat) "TidewaterModel" "takesEarly" "Z") ∈ z_ws := z_wt 1283 (by decide +kernel) rfl
theorem zw_1284 : (fieldLink "TidewaterModel" (75 : Nat) "TidewaterModel" "usedTickets" "[Z") ∈ z_ws := z_wt 1284 (by decide +kernel) rfl
theorem zw_1285 : (fieldLink "TidewaterModel" (272 : Nat) "TidewaterModel" "serverKey" "I") ∈ z_ws := z_wt 1285 (by decide +kernel) rfl
theorem zw_1286 : (fieldLink "TidewaterModel" (78 : Nat) "TidewaterModel" "oldKey" "I") ∈ z_ws := z_wt 1286 (by decide +kernel) rfl
theorem zw_1287 : (fieldLink "TidewaterModel" (275 : Nat) "TidewaterModel" "keyTick" "I") ∈ z_ws := z_wt 1287 (by decide +kernel) rfl
theorem zw_1288 : (fieldLink "TidewaterModel" (82 : Nat) "TidewaterModel" "taken" "[Z") ∈ z_ws := z_wt 1288 (by decide +kernel) rfl
theorem zw_1289 : (fieldLink "TidewaterModel" (85 : Nat) "TidewaterModel" "got" "[Z") ∈ z_ws := z_wt 1289 (by decide +kernel) rfl
theorem zw_1290 : (fieldLink "TidewaterModel" (88 : Nat) "TidewaterModel" "reads" "[I") ∈ z_ws := z_wt 1290 (by decide +kernel) rfl
theorem zw_1291 : (fieldLink "TidewaterModel" (91 : Nat) "TidewaterModel" "greatest" "I") ∈ z_ws := z_wt 1291 (by decide +kernel) rfl
theorem zw_1292 : (fieldLink "TidewaterModel" (266 : Nat) "TidewaterModel" "sinceAck" "I") ∈ z_ws := z_wt 1292 (by decide +kernel) rfl
theorem zw_1293 : (fieldLink "TidewaterModel" (94 : Nat) "TidewaterModel" "ackAt" "I") ∈ z_ws := z_wt 1293 (by decide +kernel) rfl
theorem zw_1294 : (fieldLink "TidewaterModel" (97 : Nat) "TidewaterModel" "dataPath" "I") ∈ z_ws := z_wt 1294 (by decide +kernel) rfl
theorem zw_1295 : (fieldLink "TidewaterModel" (263 : Nat) "TidewaterModel" "markedMany" "I") ∈ z_ws := z_wt 1295 (by decide +kernel) rfl
theorem zw_1296 : (fieldLink "TidewaterModel" (366 : Nat) "TidewaterModel" "client" "I") ∈ z_ws := z_wt 1296 (by decide +kernel) rfl
theorem zw_1297 : (fieldLink "TidewaterModel" (100 : Nat) "TidewaterModel" "ticket" "I") ∈ z_ws := z_wt 1297 (by decide +kernel) rfl
theorem zw_1298 : (fieldLink "TidewaterModel" (360 : Nat) "TidewaterModel" "hasCookie" "Z") ∈ z_ws := z_wt 1298 (by decide +kernel) rfl
theorem zw_1299 : (fieldLink "TidewaterModel" (357 : Nat) "TidewaterModel" "helloAt" "I") ∈ z_ws := z_wt 1299 (by decide +kernel) rfl
theorem zw_1300 : (fieldLink "TidewaterModel" (369 : Nat) "TidewaterModel" "interval" "I") ∈ z_ws := z_wt 1300 (by decide +kernel) rfl
theorem zw_1301 : (fieldLink "TidewaterModel" (418 : Nat) "TidewaterModel" "closeAt" "I") ∈ z_ws := z_wt 1301 (by decide +kernel) rfl
theorem zw_1302 : (fieldLink "TidewaterModel" (393 : Nat) "TidewaterModel" "used" "I") ∈ z_ws := z_wt 1302 (by decide +kernel) rfl
theorem zw_1303 : (fieldLink "TidewaterModel" (382 : Nat) "TidewaterModel" "clientKey" "I") ∈ z_ws := z_wt 1303 (by decide +kernel) rfl
theorem zw_1304 : (fieldLink "TidewaterModel" (348 : Nat) "TidewaterModel" "knownMarked" "I") ∈ z_ws := z_wt 1304 (by decide +kernel) rfl
theorem zw_1305 : (fieldLink "TidewaterModel" (103 : Nat) "TidewaterModel" "written" "[I") ∈ z_ws := z_wt 1305 (by decide +kernel) rfl
theorem zw_1306 : (fieldLink "TidewaterModel" (106 : Nat) "TidewaterModel" "sent" "[I") ∈ z_ws := z_wt 1306 (by decide +kernel) rfl
theorem zw_1307 : (fieldLink "TidewaterModel" (109 : Nat) "TidewaterModel" "credits" "[I") ∈ z_ws := z_wt 1307 (by decide +kernel) rfl
theorem zw_1308 : (fieldLink "TidewaterModel" (112 : Nat) "TidewaterModel" "credit" "I") ∈ z_ws := z_wt 1308 (by decide +kernel) rfl
theorem zw_1309 : (fieldLink "TidewaterModel" (115 : Nat) "TidewaterModel" "lastNew" "I") ∈ z_ws := z_wt 1309 (by decide +kernel) rfl
theorem zw_1310 : (fieldLink "TidewaterModel" (118 : Nat) "TidewaterModel" "acked" "[Z") ∈ z_ws := z_wt 1310 (by decide +kernel) rfl
theorem zw_1311 : (fieldLink "TidewaterModel" (121 : Nat) "TidewaterModel" "cover" "[I") ∈ z_ws := z_wt 1311 (by decide +kernel) rfl
theorem zw_1312 : (fieldLink "TidewaterModel" (124 : Nat) "TidewaterModel" "paths" "[I") ∈ z_ws := z_wt 1312 (by decide +kernel) rfl
theorem zw_1313 : (fieldLink "TidewaterModel" (127 : Nat) "TidewaterModel" "ticks" "[I") ∈ z_ws := z_wt 1313 (by decide +kernel) rfl
theorem zw_1314 : (fieldLink "TidewaterModel" (130 : Nat) "TidewaterModel" "streams" "[I") ∈ z_ws := z_wt 1314 (by decide +kernel) rfl
theorem zw_1315 : (fieldLink "TidewaterModel" (133 : Nat) "TidewaterModel" "firsts" "[I") ∈ z_ws := z_wt 1315 (by decide +kernel) rfl
theorem zw_1316 : (fieldLink "TidewaterModel" (136 : Nat) "TidewaterModel" "many" "[I") ∈ z_ws := z_wt 1316 (by decide +kernel) rfl
theorem zw_1317 : (fieldLink "TidewaterModel" (139 : Nat) "TidewaterModel" "states" "[I") ∈ z_ws := z_wt 1317 (by decide +kernel) rfl
theorem zw_1318 : (fieldLink "TidewaterModel" (142 : Nat) "TidewaterModel" "fates" "[I") ∈ z_ws := z_wt 1318 (by decide +kernel) rfl
theorem zw_1319 : (fieldLink "TidewaterModel" (145 : Nat) "TidewaterModel" "keys" "[I") ∈ z_ws := z_wt 1319 (by decide +kernel) rfl
theorem zw_1320 : (fieldLink "TidewaterModel" (148 : Nat) "TidewaterModel" "probed" "[Z") ∈ z_ws := z_wt 1320 (by decide +kernel) rfl
theorem zw_1321 : (fieldLink "TidewaterModel" (151 : Nat) "TidewaterModel" "early" "[Z") ∈ z_ws := z_wt 1321 (by decide +kernel) rfl
theorem zw_1322 : (fieldLink "TidewaterModel" (154 : Nat) "TidewaterModel" "marked" "[Z") ∈ z_ws := z_wt 1322 (by decide +kernel) rfl
theorem zw_1323 : (fieldLink "TidewaterModel" (157 : Nat) "TidewaterModel" "places" "[I") ∈ z_ws := z_wt 1323 (by decide +kernel) rfl
theorem zw_1324 : (fieldLink "TidewaterModel" (160 : Nat) "TidewaterModel" "ackedThen" "[I") ∈ z_ws := z_wt 1324 (by decide +kernel) rfl
theorem zw_1325 : (fieldLink "TidewaterModel" (313 : Nat) "TidewaterModel" "packets" "I") ∈ z_ws := z_wt 1325 (by decide +kernel) rfl
theorem zw_1326 : (fieldLink "TidewaterModel" (163 : Nat) "TidewaterModel" "windows" "[I") ∈ z_ws := z_wt 1326 (by decide +kernel) rfl
theorem zw_1327 : (fieldLink "TidewaterModel" (166 : Nat) "TidewaterModel" "bounds" "[I") ∈ z_ws := z_wt 1327 (by decide +kernel) rfl
theorem zw_1328 : (fieldLink "TidewaterModel" (169 : Nat) "TidewaterModel" "ways" "[I") ∈ z_ws := z_wt 1328 (by decide +kernel) rfl
theorem zw_1329 : (fieldLink "TidewaterModel" (172 : Nat) "TidewaterModel" "times" "[I") ∈ z_ws := z_wt 1329 (by decide +kernel) rfl
theorem zw_1330 : (fieldLink "TidewaterModel" (175 : Nat) "TidewaterModel" "spreads" "[I") ∈ z_ws := z_wt 1330 (by decide +kernel) rfl
theorem zw_1331 : (fieldLink "TidewaterModel" (178 : Nat) "TidewaterModel" "leasts" "[I") ∈ z_ws := z_wt 1331 (by decide +kernel) rfl
theorem zw_1332 : (fieldLink "TidewaterModel" (181 : Nat) "TidewaterModel" "latests" "[I") ∈ z_ws := z_wt 1332 (by decide +kernel) rfl
theorem zw_1333 : (fieldLink "TidewaterModel" (184 : Nat) "TidewaterModel" "measured" "[Z") ∈ z_ws := z_wt 1333 (by decide +kernel) rfl
theorem zw_1334 : (fieldLink "TidewaterModel" (187 : Nat) "TidewaterModel" "checked" "[Z") ∈ z_ws := z_wt 1334 (by decide +kernel) rfl
theorem zw_1335 : (fieldLink "TidewaterModel" (190 : Nat) "TidewaterModel" "sentOn" "[I") ∈ z_ws := z_wt 1335 (by decide +kernel) rfl
theorem zw_1336 : (fieldLink "TidewaterModel" (193 : Nat) "TidewaterModel" "ackedPlace" "[I") ∈ z_ws := z_wt 1336 (by decide +kernel) rfl
theorem zw_1337 : (fieldLink "TidewaterModel" (196 : Nat) "TidewaterModel" "lastSent" "[I") ∈ z_ws := z_wt 1337 (by decide +kernel) rfl
theorem zw_1338 : (fieldLink "TidewaterModel" (199 : Nat) "TidewaterModel" "probes" "[I") ∈ z_ws := z_wt 1338 (by decide +kernel) rfl
theorem zw_1339 : (fieldLink "TidewaterModel" (202 : Nat) "TidewaterModel" "ackedOn" "[I") ∈ z_ws := z_wt 1339 (by decide +kernel) rfl
theorem zw_1340 : (fieldLink "TidewaterModel" (205 : Nat) "TidewaterModel" "found" "[I") ∈ z_ws := z_wt 1340 (by decide +kernel) rfl
theorem zw_1341 : (fieldLink "TidewaterModel" (208 : Nat) "TidewaterModel" "foundMany" "[I") ∈ z_ws := z_wt 1341 (by decide +kernel) rfl
theorem zw_1342 : (fieldLink "TidewaterModel" (211 : Nat) "TidewaterModel" "harmFrom" "[I") ∈ z_ws := z_wt 1342 (by decide +kernel) rfl
theorem zw_1343 : (fieldLink "TidewaterModel" (214 : Nat) "TidewaterModel" "harmTick" "[I") ∈ z_ws := z_wt 1343 (by decide +kernel) rfl
theorem zw_1344 : (fieldLink "TidewaterModel" (217 : Nat) "TidewaterModel" "harmBy" "[I") ∈ z_ws := z_wt 1344 (by decide +kernel) rfl
theorem zw_1345 : (fieldLink "TidewaterModel" (220 : Nat) "TidewaterModel" "harmWindow" "[I") ∈ z_ws := z_wt 1345 (by decide +kernel) rfl
theorem zw_1346 : (fieldLink "TidewaterModel" (223 : Nat) "TidewaterModel" "harmBound" "[I") ∈ z_ws := z_wt 1346 (by decide +kernel) rfl
theorem zw_1347 : (fieldLink "TidewaterModel" (226 : Nat) "TidewaterModel" "sentNow" "[I") ∈ z_ws := z_wt 1347 (by decide +kernel) rfl
theorem zw_1348 : (fieldLink "TidewaterModel" (229 : Nat) "TidewaterModel" "counts" "[I") ∈ z_ws := z_wt 1348 (by decide +kernel) rfl
theorem zw_1349 : (fieldLink "TidewaterModel" (233 : Nat) "TidewaterModel" "last" "I") ∈ z_ws := z_wt 1349 (by decide +kernel) rfl
theorem zw_1541 : (methodLink "TidewaterLaw" (96 : Nat) ({ cls := "TidewaterModel", name := "thrown", desc := "()I" } : Jvm.MethodName)) ∈ z_ws := z_wt 1541 (by decide +kernel) rfl
theorem zw_1542 : (instanceMethod ({ cls := "TidewaterModel", name := "thrown", desc := "()I" } : Jvm.MethodName)) ∈ z_ws := z_wt 1542 (by decide +kernel) rfl
theorem zw_1543 : (selects "TidewaterModel" ({ cls := "TidewaterModel", name := "thrown", desc := "()I" } : Jvm.MethodName) ({ cls := "TidewaterModel", name := "thrown", desc := "()I" } : Jvm.MethodName)) ∈ z_ws := z_wt 1543 (by decide +kernel) rfl
theorem zw_1544 : (code ({ cls := "TidewaterModel", name := "thrown", desc := "()I" } : Jvm.MethodName) prog_14_method_2_code (1 : Nat) (Option.some FieldType.int)) ∈ z_ws := z_wt 1544 (by decide +kernel) rfl
theorem zw_1545 : (methodLink "TidewaterLaw" (95 : Nat) ({ cls := "TidewaterModel", name := "setPath", desc := "(IIIII)V" } : Jvm.MethodName)) ∈ z_ws := z_wt 1545 (by decide +kernel) rfl
theorem zw_1546 : (instanceMethod ({ cls := "TidewaterModel", name := "setPath", desc := "(IIIII)V" } : Jvm.MethodName)) ∈ z_ws := z_wt 1546 (by decide +kernel) rfl
theorem zw_1547 : (selects "TidewaterModel" ({ cls := "TidewaterModel", name := "setPath", desc := "(IIIII)V" } : Jvm.MethodName) ({ cls := "TidewaterModel", name := "setPath", desc := "(IIIII)V" } : Jvm.MethodName)) ∈ z_ws := z_wt 1547 (by decide +kernel) rfl
theorem zw_1548 : (code ({ cls := "TidewaterModel", name := "setPath", desc := "(IIIII)V" } : Jvm.MethodName) prog_14_method_10_code (6 : Nat) (Option.none : Option FieldType)) ∈ z_ws := z_wt 1548 (by decide +kernel) rfl
theorem zw_1549 : (methodLink "TidewaterModel" (249 : Nat) ({ cls := "TidewaterModel", name := "isPath", desc := "(I)Z" } : Jvm.MethodName)) ∈ z_ws := z_wt 1549 (by decide +kernel) rfl
theorem zw_1550 : (static ({ cls := "TidewaterModel", name := "isPath", desc := "(I)Z" } : Jvm.MethodName)) ∈ z_ws := z_wt 1550 (by decide +kernel) rfl
theorem zw_1551 : (code ({ cls := "TidewaterModel", name := "isPath", desc := "(I)Z" } : Jvm.MethodName) prog_14_method_5_code (1 : Nat) (Option.some FieldType.boolean)) ∈ z_ws := z_wt 1551 (by decide +kernel) rfl
theorem zw_1552 : (methodLink "TidewaterModel" (236 : Nat) ({ cls := "TidewaterModel", name := "in", desc := "(III)Z" } : Jvm.MethodName)) ∈ z_ws := z_wt 1552 (by decide +kernel) rfl
theorem zw_1553 : (static ({ cls := "TidewaterModel", name := "in", desc := "(III)Z" } : Jvm.MethodName)) ∈ z_ws := z_wt 1553 (by decide +kernel) rfl
theorem zw_1554 : (code ({ cls := "TidewaterModel", name := "in", desc := "(III)Z" } : Jvm.MethodName) prog_14_method_3_code (3 : Nat) (Option.some FieldType.boolean)) ∈ z_ws := z_wt 1554 (by decide +kernel) rfl
theorem zw_1555 : (methodLink "TidewaterModel" (253 : Nat) ({ cls := "TidewaterModel", name := "goes", desc := "(ZZZ)Z" } : Jvm.MethodName)) ∈ z_ws := z_wt 1555 (by decide +kernel) rfl
theorem zw_1557 : (instanceMethod ({ cls := "TidewaterModel", name := "goes", desc := "(ZZZ)Z" } : Jvm.MethodName)) ∈ z_ws := z_wt 1557 (by decide +kernel) rfl
theorem zw_1558 : (code ({ cls := "TidewaterModel", name := "goes", desc := "(ZZZ)Z" } : Jvm.MethodName) prog_14_method_4_code (4 : Nat) (Option.some FieldType.boolean)) ∈ z_ws := z_wt 1558 (by decide +kernel) rfl
theorem zw_1559 : (methodLink "TidewaterLaw" (102 : Nat) ({ cls := "TidewaterModel", name := "setUp", desc := "(IZ)Z" } : Jvm.MethodName)) ∈ z_ws := z_wt 1559 (by decide +kernel) rfl
theorem zw_1560 : (instanceMethod ({ cls := "TidewaterModel", name := "setUp", desc := "(IZ)Z" } : Jvm.MethodName)) ∈ z_ws := z_wt 1560 (by decide +kernel) rfl
theorem zw_1561 : (selects "TidewaterModel" ({ cls := "TidewaterModel", name := "setUp", desc := "(IZ)Z" } : Jvm.MethodName) ({ cls := "TidewaterModel", name := "setUp", desc := "(IZ)Z" } : Jvm.MethodName)) ∈ z_ws := z_wt 1561 (by decide +kernel) rfl
theorem zw_1562 : (code ({ cls := "TidewaterModel", name := "setUp", desc := "(IZ)Z" } : Jvm.MethodName) prog_14_method_11_code (4 : Nat) (Option.some FieldType.boolean)) ∈ z_ws := z_wt 1562 (by decide +kernel) rfl
theorem zw_1563 : (methodLink "TidewaterLaw" (106 : Nat) ({ cls := "TidewaterModel", name := "lose", desc := "(IZI)V" } : Jvm.MethodName)) ∈ z_ws := z_wt 1563 (by decide +kernel) rfl
theorem zw_1564 : (instanceMethod ({ cls := "TidewaterModel", name := "lose", desc := "(IZI)V" } : Jvm.MethodName)) ∈ z_ws := z_wt 1564 (by decide +kernel) rfl
theorem zw_1565 : (selects "TidewaterModel" ({ cls := "TidewaterModel", name := "lose", desc := "(IZI)V" } : Jvm.MethodName) ({ cls := "TidewaterModel", name := "lose", desc := "(IZI)V" } : Jvm.MethodName)) ∈ z_ws := z_wt 1565 (by decide +kernel) rfl
theorem zw_1566 : (code ({ cls := "TidewaterModel", name := "lose", desc := "(IZI)V" } : Jvm.MethodName) prog_14_method_12_code (4 : Nat) (Option.none : Option FieldType)) ∈ z_ws := z_wt 1566 (by decide +kernel) rfl
theorem zw_1567 : (methodLink "TidewaterLaw" (110 : Nat) ({ cls := "TidewaterModel", name := "late", desc := "(III)V" } : Jvm.MethodName)) ∈ z_ws := z_wt 1567 (by decide +kernel) rfl
theorem zw_1568 : (instanceMethod ({ cls := "TidewaterModel", name := "late", desc := "(III)V" } : Jvm.MethodName)) ∈ z_ws := z_wt 1568 (by decide +kernel) rfl
theorem zw_1569 : (selects "TidewaterModel" ({ cls := "TidewaterModel", name := "late", desc := "(III)V" } : Jvm.MethodName) ({ cls := "TidewaterModel", name := "late", desc := "(III)V" } : Jvm.MethodName)) ∈ z_ws := z_wt 1569 (by decide +kernel) rfl
theorem zw_1570 : (code ({ cls := "TidewaterModel", name := "late", desc := "(III)V" } : Jvm.MethodName) prog_14_method_13_code (4 : Nat) (Option.none : Option FieldType)) ∈ z_ws := z_wt 1570 (by decide +kernel) rfl
theorem zw_1571 : (methodLink "TidewaterLaw" (114 : Nat) ({ cls := "TidewaterModel", name := "foreign", desc := "(II)I" } : Jvm.MethodName)) ∈ z_ws := z_wt 1571 (by decide +kernel) rfl
theorem zw_1572 : (instanceMethod ({ cls := "TidewaterModel", name := "foreign", desc := "(II)I" } : Jvm.MethodName)) ∈ z_ws := z_wt 1572 (by decide +kernel) rfl
theorem zw_1573 : (selects "TidewaterModel" ({ cls := "TidewaterModel", name := "foreign", desc := "(II)I" } : Jvm.MethodName) ({ cls := "TidewaterModel", name := "foreign", desc := "(II)I" } : Jvm.MethodName)) ∈ z_ws := z_wt 1573 (by decide +kernel) rfl
theorem zw_1574 : (code ({ cls := "TidewaterModel", name := "foreign", desc := "(II)I" } : Jvm.MethodName) prog_14_method_14_code (4 : Nat) (Option.some FieldType.int)) ∈ z_ws := z_wt 1574 (by decide +kernel) rfl
theorem zw_1575 : (methodLink "TidewaterLaw" (119 : Nat) ({ cls := "TidewaterModel", name := "setCookies", desc := "(Z)Z" } : Jvm.MethodName)) ∈ z_ws := z_wt 1575 (by decide +kernel) rfl
theorem zw_1576 : (instanceMethod ({ cls := "TidewaterModel", name := "setCookies", desc := "(Z)Z" } : Jvm.MethodName)) ∈ z_ws := z_wt 1576 (by decide +kernel) rfl
theorem zw_1577 : (selects "TidewaterModel" ({ cls := "TidewaterModel", name := "setCookies", desc := "(Z)Z" } : Jvm.MethodName) ({ cls := "TidewaterModel", name := "setCookies", desc := "(Z)Z" } : Jvm.MethodName)) ∈ z_ws := z_wt 1577 (by decide +kernel) rfl
theorem zw_1578 : (code ({ cls := "TidewaterModel", name := "setCookies", desc := "(Z)Z" } : Jvm.MethodName) prog_14_method_22_code (3 : Nat) (Option.some FieldType.boolean)) ∈ z_ws := z_wt 1578 (by decide +kernel) rfl
theorem zw_1579 : (methodLink "TidewaterLaw" (122 : Nat) ({ cls := "TidewaterModel", name := "read", desc := "(II)I" } : Jvm.MethodName)) ∈ z_ws := z_wt 1579 (by decide +kernel) rfl
theorem zw_1580 : (instanceMethod ({ cls := "TidewaterModel", name := "read", desc := "(II)I" } : Jvm.MethodName)) ∈ z_ws := z_wt 1580 (by decide +kernel) rfl
theorem zw_1581 : (selects "TidewaterModel" ({ cls := "TidewaterModel", name := "read", desc := "(II)I" } : Jvm.MethodName) ({ cls := "TidewaterModel", name := "read", desc := "(II)I" } : Jvm.MethodName)) ∈ z_ws := z_wt 1581 (by decide +kernel) rfl
theorem zw_1582 : (code ({ cls := "TidewaterModel", name := "read", desc := "(II)I" } : Jvm.MethodName) prog_14_method_23_code (5 : Nat) (Option.some FieldType.int)) ∈ z_ws := z_wt 1582 (by decide +kernel) rfl
theorem zw_1583 : (methodLink "TidewaterModel" (306 : Nat) ({ cls := "TidewaterModel", name := "isStream", desc := "(I)Z" } : Jvm.MethodName)) ∈ z_ws := z_wt 1583 (by decide +kernel) rfl
theorem zw_1584 : (static ({ cls := "TidewaterModel", name := "isStream", desc := "(I)Z" } : Jvm.MethodName)) ∈ z_ws := z_wt 1584 (by decide +kernel) rfl
theorem zw_1585 : (code ({ cls := "TidewaterModel", name := "isStream", desc := "(I)Z" } : Jvm.MethodName) prog_14_method_6_code (1 : Nat) (Option.some FieldType.boolean)) ∈ z_ws := z_wt 1585 (by decide +kernel) rfl
theorem zw_1586 : (methodLink "TidewaterModel" (309 : Nat) ({ cls := "TidewaterModel", name := "gotOf", desc := "(I)I" } : Jvm.MethodName)) ∈ z_ws := z_wt 1586 (by decide +kernel) rfl
theorem zw_1588 : (instanceMethod ({ cls := "TidewaterModel", name := "gotOf", desc := "(I)I" } : Jvm.MethodName)) ∈ z_ws := z_wt 1588 (by decide +kernel) rfl
theorem zw_1589 : (code ({ cls := "TidewaterModel", name := "gotOf", desc := "(I)I" } : Jvm.MethodName) prog_14_method_16_code (3 : Nat) (Option.some FieldType.int)) ∈ z_ws := z_wt 1589 (by decide +kernel) rfl
theorem zw_1590 : (methodLink "TidewaterModel" (292 : Nat) ({ cls := "TidewaterModel", name := "acknowledges", desc := "()V" } : Jvm.MethodName)) ∈ z_ws := z_wt 1590 (by decide +kernel) rfl
theorem zw_1592 : (instanceMethod ({ cls := "TidewaterModel", name := "acknowledges", desc := "()V" } : Jvm.MethodName)) ∈ z_ws := z_wt 1592 (by decide +kernel) rfl
theorem zw_1593 : (code ({ cls := "TidewaterModel", name := "acknowledges", desc := "()V" } : Jvm.MethodName) prog_14_method_17_code (6 : Nat) (Option.none : Option FieldType)) ∈ z_ws := z_wt 1593 (by decide +kernel) rfl
theorem zw_1594 : (methodLink "TidewaterModel" (269 : Nat) ({ cls := "TidewaterModel", name := "answers", desc := "(III)V" } : Jvm.MethodName)) ∈ z_ws := z_wt 1594 (by decide +kernel) rfl
theorem zw_1596 : (instanceMethod ({ cls := "TidewaterModel", name := "answers", desc := "(III)V" } : Jvm.MethodName)) ∈ z_ws := z_wt 1596 (by decide +kernel) rfl
theorem zw_1597 : (code ({ cls := "TidewaterModel", name := "answers", desc := "(III)V" } : Jvm.MethodName) prog_14_method_9_code (4 : Nat) (Option.none : Option FieldType)) ∈ z_ws := z_wt 1597 (by decide +kernel) rfl
theorem zw_1598 : (methodLink "TidewaterLaw" (126 : Nat) ({ cls := "TidewaterModel", name := "loseState", desc := "()V" } : Jvm.MethodName)) ∈ z_ws := z_wt 1598 (by decide +kernel) rfl
theorem zw_1599 : (instanceMethod ({ cls := "TidewaterModel", name := "loseState", desc := "()V" } : Jvm.MethodName)) ∈ z_ws := z_wt 1599 (by decide +kernel) rfl
theorem zw_1600 : (selects "TidewaterModel" ({ cls := "TidewaterModel", name := "loseState", desc := "()V" } : Jvm.MethodName) ({ cls := "TidewaterModel", name := "loseState", desc := "()V" } : Jvm.MethodName)) ∈ z_ws := z_wt 1600 (by decide +kernel) rfl
theorem zw_1601 : (code ({ cls := "TidewaterModel", name := "loseState", desc := "()V" } : Jvm.MethodName) prog_14_method_24_code (2 : Nat) (Option.none : Option FieldType)) ∈ z_ws := z_wt 1601 (by decide +kernel) rfl
theorem zw_1602 : (methodLink "TidewaterLaw" (130 : Nat) ({ cls := "TidewaterModel", name := "connect", desc := "(I)V" } : Jvm.MethodName)) ∈ z_ws := z_wt 1602 (by decide +kernel) rfl
theorem zw_1603 : (instanceMethod ({ cls := "TidewaterModel", name := "connect", desc := "(I)V" } : Jvm.MethodName)) ∈ z_ws := z_wt 1603 (by decide +kernel) rfl
theorem zw_1604 : (selects "TidewaterModel" ({ cls := "TidewaterModel", name := "connect", desc := "(I)V" } : Jvm.MethodName) ({ cls := "TidewaterModel", name := "connect", desc := "(I)V" } : Jvm.MethodName)) ∈ z_ws := z_wt 1604 (by decide +kernel) rfl
theorem zw_1605 : (code ({ cls := "TidewaterModel", name := "connect", desc := "(I)V" } : Jvm.MethodName) prog_14_method_49_code (2 : Nat) (Option.none : Option FieldType)) ∈ z_ws := z_wt 1605 (by decide +kernel) rfl
theorem zw_1606 : (methodLink "TidewaterModel" (372 : Nat) ({ cls := "TidewaterModel", name := "saysHello", desc := "()V" } : Jvm.MethodName)) ∈ z_ws := z_wt 1606 (by decide +kernel) rfl
theorem zw_1608 : (instanceMethod ({ cls := "TidewaterModel", name := "saysHello", desc := "()V" } : Jvm.MethodName)) ∈ z_ws := z_wt 1608 (by decide +kernel) rfl
theorem zw_1609 : (code ({ cls := "TidewaterModel", name := "saysHello", desc := "()V" } : Jvm.MethodName) prog_14_method_36_code (1 : Nat) (Option.none : Option FieldType)) ∈ z_ws := z_wt 1609 (by decide +kernel) rfl
theorem zw_1610 : (methodLink "TidewaterModel" (363 : Nat) ({ cls := "TidewaterModel", name := "puts", desc := "(III)V" } : Jvm.MethodName)) ∈ z_ws := z_wt 1610 (by decide +kernel) rfl
theorem zw_1612 : (instanceMethod ({ cls := "TidewaterModel", name := "puts", desc := "(III)V" } : Jvm.MethodName)) ∈ z_ws := z_wt 1612 (by decide +kernel) rfl
theorem zw_1613 : (code ({ cls := "TidewaterModel", name := "puts", desc := "(III)V" } : Jvm.MethodName) prog_14_method_8_code (5 : Nat) (Option.none : Option FieldType)) ∈ z_ws := z_wt 1613 (by decide +kernel) rfl
theorem zw_1614 : (methodLink "TidewaterLaw" (133 : Nat) ({ cls := "TidewaterModel", name := "write", desc := "(II)I" } : Jvm.MethodName)) ∈ z_ws := z_wt 1614 (by decide +kernel) rfl
theorem zw_1615 : (instanceMethod ({ cls := "TidewaterModel", name := "write", desc := "(II)I" } : Jvm.MethodName)) ∈ z_ws := z_wt 1615 (by decide +kernel) rfl
theorem zw_1616 : (selects "TidewaterModel" ({ cls := "TidewaterModel", name := "write", desc := "(II)I" } : Jvm.MethodName) ({ cls := "TidewaterModel", name := "write", desc := "(II)I" } : Jvm.MethodName)) ∈ z_ws := z_wt 1616 (by decide +kernel) rfl
theorem zw_1617 : (code ({ cls := "TidewaterModel", name := "write", desc := "(II)I" } : Jvm.MethodName) prog_14_method_50_code (4 : Nat) (Option.some FieldType.int)) ∈ z_ws := z_wt 1617 (by decide +kernel) rfl
theorem zw_1618 : (methodLink "TidewaterLaw" (136 : Nat) ({ cls := "TidewaterModel", name := "setWay", desc := "(II)I" } : Jvm.MethodName)) ∈ z_ws := z_wt 1618 (by decide +kernel) rfl
theorem zw_1619 : (instanceMethod ({ cls := "TidewaterModel", name := "setWay", desc := "(II)I" } : Jvm.MethodName)) ∈ z_ws := z_wt 1619 (by decide +kernel) rfl
theorem zw_1620 : (selects "TidewaterModel" ({ cls := "TidewaterModel", name := "setWay", desc := "(II)I" } : Jvm.MethodName) ({ cls := "TidewaterModel", name := "setWay", desc := "(II)I" } : Jvm.MethodName)) ∈ z_ws := z_wt 1620 (by decide +kernel) rfl
theorem zw_1621 : (code ({ cls := "TidewaterModel", name := "setWay", desc := "(II)I" } : Jvm.MethodName) prog_14_method_51_code (4 : Nat) (Option.some FieldType.int)) ∈ z_ws := z_wt 1621 (by decide +kernel) rfl
theorem zw_1622 : (methodLink "TidewaterLaw" (139 : Nat) ({ cls := "TidewaterModel", name := "check", desc := "(I)V" } : Jvm.MethodName)) ∈ z_ws := z_wt 1622 (by decide +kernel) rfl
theorem zw_1623 : (instanceMethod ({ cls := "TidewaterModel", name := "check", desc := "(I)V" } : Jvm.MethodName)) ∈ z_ws := z_wt 1623 (by decide +kernel) rfl
theorem zw_1624 : (selects "TidewaterModel" ({ cls := "TidewaterModel", name := "check", desc := "(I)V" } : Jvm.MethodName) ({ cls := "TidewaterModel", name := "check", desc := "(I)V" } : Jvm.MethodName)) ∈ z_ws := z_wt 1624 (by decide +kernel) rfl
theorem zw_1625 : (code ({ cls := "TidewaterModel", name := "check", desc := "(I)V" } : Jvm.MethodName) prog_14_method_52_code (2 : Nat) (Option.none : Option FieldType)) ∈ z_ws := z_wt 1625 (by decide +kernel) rfl
theorem zw_1626 : (methodLink "TidewaterLaw" (143 : Nat) ({ cls := "TidewaterModel", name := "use", desc := "(I)I" } : Jvm.MethodName)) ∈ z_ws := z_wt 1626 (by decide +kernel) rfl
theorem zw_1627 : (instanceMethod ({ cls := "TidewaterModel", name := "use", desc := "(I)I" } : Jvm.MethodName)) ∈ z_ws := z_wt 1627 (by decide +kernel) rfl
theorem zw_1628 : (selects "TidewaterModel" ({ cls := "TidewaterModel", name := "use", desc := "(I)I" } : Jvm.MethodName) ({ cls := "TidewaterModel", name := "use", desc := "(I)I" } : Jvm.MethodName)) ∈ z_ws := z_wt 1628 (by decide +kernel) rfl
theorem zw_1629 : (code ({ cls := "TidewaterModel", name := "use", desc := "(I)I" } : Jvm.MethodName) prog_14_method_53_code (4 : Nat) (Option.some FieldType.int)) ∈ z_ws := z_wt 1629 (by decide +kernel) rfl
theorem zw_1630 : (methodLink "TidewaterLaw" (147 : Nat) ({ cls := "TidewaterModel", name := "changeKey", desc := "()I" } : Jvm.MethodName)) ∈ z_ws := z_wt 1630 (by decide +kernel) rfl
theorem zw_1631 : (instanceMethod ({ cls := "TidewaterModel", name := "changeKey", desc := "()I" } : Jvm.MethodName)) ∈ z_ws := z_wt 1631 (by decide +kernel) rfl
theorem zw_1632 : (selects "TidewaterModel" ({ cls := "TidewaterModel", name := "changeKey", desc := "()I" } : Jvm.MethodName) ({ cls := "TidewaterModel", name := "changeKey", desc := "()I" } : Jvm.MethodName)) ∈ z_ws := z_wt 1632 (by decide +kernel) rfl
theorem zw_1633 : (code ({ cls := "TidewaterModel", name := "changeKey", desc := "()I" } : Jvm.MethodName) prog_14_method_54_code (3 : Nat) (Option.some FieldType.int)) ∈ z_ws := z_wt 1633 (by decide +kernel) rfl
theorem zw_1634 : (methodLink "TidewaterLaw" (151 : Nat) ({ cls := "TidewaterModel", name := "close", desc := "()V" } : Jvm.MethodName)) ∈ z_ws := z_wt 1634 (by decide +kernel) rfl
theorem zw_1635 : (instanceMethod ({ cls := "TidewaterModel", name := "close", desc := "()V" } : Jvm.MethodName)) ∈ z_ws := z_wt 1635 (by decide +kernel) rfl
theorem zw_1636 : (selects "TidewaterModel" ({ cls := "TidewaterModel", name := "close", desc := "()V" } : Jvm.MethodName) ({ cls := "TidewaterModel", name := "close", desc := "()V" } : Jvm.MethodName)) ∈ z_ws := z_wt 1636 (by decide +kernel) rfl
theorem zw_1637 : (code ({ cls := "TidewaterModel", name := "close", desc := "()V" } : Jvm.MethodName) prog_14_method_55_code (1 : Nat) (Option.none : Option FieldType)) ∈ z_ws := z_wt 1637 (by decide +kernel) rfl
theorem zw_1638 : (methodLink "TidewaterLaw" (154 : Nat) ({ cls := "TidewaterModel", name := "tick", desc := "(I)I" } : Jvm.MethodName)) ∈ z_ws := z_wt 1638 (by decide +kernel) rfl
theorem zw_1639 : (instanceMethod ({ cls := "TidewaterModel", name := "tick", desc := "(I)I" } : Jvm.MethodName)) ∈ z_ws := z_wt 1639 (by decide +kernel) rfl
theorem zw_1640 : (selects "TidewaterModel" ({ cls := "TidewaterModel", name := "tick", desc := "(I)I" } : Jvm.MethodName) ({ cls := "TidewaterModel", name := "tick", desc := "(I)I" } : Jvm.MethodName)) ∈ z_ws := z_wt 1640 (by decide +kernel) rfl
theorem zw_1641 : (code ({ cls := "TidewaterModel", name := "tick", desc := "(I)I" } : Jvm.MethodName) prog_14_method_57_code (3 : Nat) (Option.some FieldType.int)) ∈ z_ws := z_wt 1641 (by decide +kernel) rfl
theorem zw_1642 : (methodLink "TidewaterModel" (436 : Nat) ({ cls := "TidewaterModel", name := "passes", desc := "()V" } : Jvm.MethodName)) ∈ z_ws := z_wt 1642 (by decide +kernel) rfl
theorem zw_1644 : (instanceMethod ({ cls := "TidewaterModel", name := "passes", desc := "()V" } : Jvm.MethodName)) ∈ z_ws := z_wt 1644 (by decide +kernel) rfl
theorem zw_1645 : (code ({ cls := "TidewaterModel", name := "passes", desc := "()V" } : Jvm.MethodName) prog_14_method_56_code (3 : Nat) (Option.none : Option FieldType)) ∈ z_ws := z_wt 1645 (by decide +kernel) rfl
theorem zw_1646 : (methodLink "TidewaterModel" (421 : Nat) ({ cls := "TidewaterModel", name := "arrivesAtServer", desc := "(I)V" } : Jvm.MethodName)) ∈ z_ws := z_wt 1646 (by decide +kernel) rfl
theorem zw_1648 : (instanceMethod ({ cls := "TidewaterModel", name := "arrivesAtServer", desc := "(I)V" } : Jvm.MethodName)) ∈ z_ws := z_wt 1648 (by decide +kernel) rfl
theorem zw_1649 : (code ({ cls := "TidewaterModel", name := "arrivesAtServer", desc := "(I)V" } : Jvm.MethodName) prog_14_method_21_code (4 : Nat) (Option.none : Option FieldType)) ∈ z_ws := z_wt 1649 (by decide +kernel) rfl
theorem zw_1650 : (methodLink "TidewaterModel" (298 : Nat) ({ cls := "TidewaterModel", name := "hears", desc := "(II)V" } : Jvm.MethodName)) ∈ z_ws := z_wt 1650 (by decide +kernel) rfl
theorem zw_1652 : (instanceMethod ({ cls := "TidewaterModel", name := "hears", desc := "(II)V" } : Jvm.MethodName)) ∈ z_ws := z_wt 1652 (by decide +kernel) rfl
theorem zw_1653 : (code ({ cls := "TidewaterModel", name := "hears", desc := "(II)V" } : Jvm.MethodName) prog_14_method_20_code (5 : Nat) (Option.none : Option FieldType)) ∈ z_ws := z_wt 1653 (by decide +kernel) rfl
theorem zw_1654 : (methodLink "TidewaterModel" (302 : Nat) ({ cls := "TidewaterModel", name := "takes", desc := "(I)V" } : Jvm.MethodName)) ∈ z_ws := z_wt 1654 (by decide +kernel) rfl
theorem zw_1656 : (instanceMethod ({ cls := "TidewaterModel", name := "takes", desc := "(I)V" } : Jvm.MethodName)) ∈ z_ws := z_wt 1656 (by decide +kernel) rfl
theorem zw_1657 : (code ({ cls := "TidewaterModel", name := "takes", desc := "(I)V" } : Jvm.MethodName) prog_14_method_19_code (3 : Nat) (Option.none : Option FieldType)) ∈ z_ws := z_wt 1657 (by decide +kernel) rfl
theorem zw_1658 : (methodLink "TidewaterModel" (285 : Nat) ({ cls := "TidewaterModel", name := "isByKey", desc := "(I)Z" } : Jvm.MethodName)) ∈ z_ws := z_wt 1658 (by decide +kernel) rfl
theorem zw_1660 : (instanceMethod ({ cls := "TidewaterModel", name := "isByKey", desc := "(I)Z" } : Jvm.MethodName)) ∈ z_ws := z_wt 1660 (by decide +kernel) rfl
theorem zw_1661 : (code ({ cls := "TidewaterModel", name := "isByKey", desc := "(I)Z" } : Jvm.MethodName) prog_14_method_18_code (2 : Nat) (Option.some FieldType.boolean)) ∈ z_ws := z_wt 1661 (by decide +kernel) rfl
theorem zw_1662 : (methodLink "TidewaterModel" (288 : Nat) ({ cls := "TidewaterModel", name := "max", desc := "(II)I" } : Jvm.MethodName)) ∈ z_ws := z_wt 1662 (by decide +kernel) rfl
theorem zw_1663 : (static ({ cls := "TidewaterModel", name := "max", desc := "(II)I" } : Jvm.MethodName)) ∈ z_ws := z_wt 1663 (by decide +kernel) rfl
theorem zw_1664 : (code ({ cls := "TidewaterModel", name := "max", desc := "(II)I" } : Jvm.MethodName) prog_14_method_7_code (2 : Nat) (Option.some FieldType.int)) ∈ z_ws := z_wt 1664 (by decide +kernel) rfl
theorem zw_1665 : (methodLink "TidewaterModel" (424 : Nat) ({ cls := "TidewaterModel", name := "arrivesAtClient", desc := "(I)V" } : Jvm.MethodName)) ∈ z_ws := z_wt 1665 (by decide +kernel) rfl
theorem zw_1667 : (instanceMethod ({ cls := "TidewaterModel", name := "arrivesAtClient", desc := "(I)V" } : Jvm.MethodName)) ∈ z_ws := z_wt 1667 (by decide +kernel) rfl
theorem zw_1668 : (code ({ cls := "TidewaterModel", name := "arrivesAtClient", desc := "(I)V" } : Jvm.MethodName) prog_14_method_38_code (3 : Nat) (Option.none : Option FieldType)) ∈ z_ws := z_wt 1668 (by decide +kernel) rfl
theorem zw_1669 : (methodLink "TidewaterModel" (375 : Nat) ({ cls := "TidewaterModel", name := "hearsAccept", desc := "(Z)V" } : Jvm.MethodName)) ∈ z_ws := z_wt 1669 (by decide +kernel) rfl
theorem zw_1671 : (instanceMethod ({ cls := "TidewaterModel", name := "hearsAccept", desc := "(Z)V" } : Jvm.MethodName)) ∈ z_ws := z_wt 1671 (by decide +kernel) rfl
theorem zw_1672 : (code ({ cls := "TidewaterModel", name := "hearsAccept", desc := "(Z)V" } : Jvm.MethodName) prog_14_method_37_code (3 : Nat) (Option.none : Option FieldType)) ∈ z_ws := z_wt 1672 (by decide +kernel) rfl
theorem zw_1673 : (methodLink "TidewaterModel" (345 : Nat) ({ cls := "TidewaterModel", name := "measures", desc := "(II)V" } : Jvm.MethodName)) ∈ z_ws := z_wt 1673 (by decide +kernel) rfl
theorem zw_1675 : (instanceMethod ({ cls := "TidewaterModel", name := "measures", desc := "(II)V" } : Jvm.MethodName)) ∈ z_ws := z_wt 1675 (by decide +kernel) rfl
theorem zw_1676 : (code ({ cls := "TidewaterModel", name := "measures", desc := "(II)V" } : Jvm.MethodName) prog_14_method_25_code (4 : Nat) (Option.none : Option FieldType)) ∈ z_ws := z_wt 1676 (by decide +kernel) rfl
theorem zw_1677 : (methodLink "TidewaterModel" (329 : Nat) ({ cls := "TidewaterModel", name := "lands", desc := "(II)V" } : Jvm.MethodName)) ∈ z_ws := z_wt 1677 (by decide +kernel) rfl
theorem zw_1679 : (instanceMethod ({ cls := "TidewaterModel", name := "lands", desc := "(II)V" } : Jvm.MethodName)) ∈ z_ws := z_wt 1679 (by decide +kernel) rfl
theorem zw_1680 : (code ({ cls := "TidewaterModel", name := "lands", desc := "(II)V" } : Jvm.MethodName) prog_14_method_30_code (4 : Nat) (Option.none : Option FieldType)) ∈ z_ws := z_wt 1680 (by decide +kernel) rfl
theorem zw_1681 : (methodLink "TidewaterModel" (379 : Nat) ({ cls := "TidewaterModel", name := "hearsAck", desc := "(I)V" } : Jvm.MethodName)) ∈ z_ws := z_wt 1681 (by decide +kernel) rfl
theorem zw_1683 : (instanceMethod ({ cls := "TidewaterModel", name := "hearsAck", desc := "(I)V" } : Jvm.MethodName)) ∈ z_ws := z_wt 1683 (by decide +kernel) rfl
theorem zw_1684 : (code ({ cls := "TidewaterModel", name := "hearsAck", desc := "(I)V" } : Jvm.MethodName) prog_14_method_35_code (7 : Nat) (Option.none : Option FieldType)) ∈ z_ws := z_wt 1684 (by decide +kernel) rfl
theorem zw_1685 : (methodLink "TidewaterModel" (342 : Nat) ({ cls := "TidewaterModel", name := "hearsOf", desc := "(I)V" } : Jvm.MethodName)) ∈ z_ws := z_wt 1685 (by decide +kernel) rfl
theorem zw_1687 : (instanceMethod ({ cls := "TidewaterModel", name := "hearsOf", desc := "(I)V" } : Jvm.MethodName)) ∈ z_ws := z_wt 1687 (by decide +kernel) rfl
theorem zw_1688 : (code ({ cls := "TidewaterModel", name := "hearsOf", desc := "(I)V" } : Jvm.MethodName) prog_14_method_34_code (4 : Nat) (Option.none : Option FieldType)) ∈ z_ws := z_wt 1688 (by decide +kernel) rfl
theorem zw_1689 : (methodLink "TidewaterModel" (339 : Nat) ({ cls := "TidewaterModel", name := "grows", desc := "(I)V" } : Jvm.MethodName)) ∈ z_ws := z_wt 1689 (by decide +kernel) rfl
theorem zw_1691 : (instanceMethod ({ cls := "TidewaterModel", name := "grows", desc := "(I)V" } : Jvm.MethodName)) ∈ z_ws := z_wt 1691 (by decide +kernel) rfl
theorem zw_1692 : (code ({ cls := "TidewaterModel", name := "grows", desc := "(I)V" } : Jvm.MethodName) prog_14_method_28_code (6 : Nat) (Option.none : Option FieldType)) ∈ z_ws := z_wt 1692 (by decide +kernel) rfl
theorem zw_1693 : (methodLink "TidewaterModel" (326 : Nat) ({ cls := "TidewaterModel", name := "byCube", desc := "(I)I" } : Jvm.MethodName)) ∈ z_ws := z_wt 1693 (by decide +kernel) rfl
theorem zw_1695 : (instanceMethod ({ cls := "TidewaterModel", name := "byCube", desc := "(I)I" } : Jvm.MethodName)) ∈ z_ws := z_wt 1695 (by decide +kernel) rfl
theorem zw_1696 : (code ({ cls := "TidewaterModel", name := "byCube", desc := "(I)I" } : Jvm.MethodName) prog_14_method_27_code (12 : Nat) (Option.some FieldType.int)) ∈ z_ws := z_wt 1696 (by decide +kernel) rfl
theorem zw_1697 : (constantLong "TidewaterModel" (316 : Nat) (2 : Int64)) ∈ z_ws := z_wt 1697 (by decide +kernel) rfl
theorem zw_1698 : (constantLong "TidewaterModel" (318 : Nat) (125 : Int64)) ∈ z_ws := z_wt 1698 (by decide +kernel) rfl
theorem zw_1699 : (constantLong "TidewaterModel" (320 : Nat) (3 : Int64)) ∈ z_ws := z_wt 1699 (by decide +kernel) rfl
theorem zw_1700 : (constantLong "TidewaterModel" (322 : Nat) (10 : Int64)) ∈ z_ws := z_wt 1700 (by decide +kernel) rfl
theorem zw_1701 : (constantLong "TidewaterModel" (324 : Nat) (16 : Int64)) ∈ z_ws := z_wt 1701 (by decide +kernel) rfl
theorem zw_1702 : (methodLink "TidewaterModel" (332 : Nat) ({ cls := "TidewaterModel", name := "harms", desc := "(IIZ)V" } : Jvm.MethodName)) ∈ z_ws := z_wt 1702 (by decide +kernel) rfl
theorem zw_1704 : (instanceMethod ({ cls := "TidewaterModel", name := "harms", desc := "(IIZ)V" } : Jvm.MethodName)) ∈ z_ws := z_wt 1704 (by decide +kernel) rfl
theorem zw_1705 : (code ({ cls := "TidewaterModel", name := "harms", desc := "(IIZ)V" } : Jvm.MethodName) prog_14_method_29_code (4 : Nat) (Option.none : Option FieldType)) ∈ z_ws := z_wt 1705 (by decide +kernel) rfl
theorem zw_1706 : (methodLink "TidewaterModel" (351 : Nat) ({ cls := "TidewaterModel", name := "losesByOrder", desc := "(I)V" } : Jvm.MethodName)) ∈ z_ws := z_wt 1706 (by decide +kernel) rfl
theorem zw_1708 : (instanceMethod ({ cls := "TidewaterModel", name := "losesByOrder", desc := "(I)V" } : Jvm.MethodName)) ∈ z_ws := z_wt 1708 (by decide +kernel) rfl
theorem zw_1709 : (code ({ cls := "TidewaterModel", name := "losesByOrder", desc := "(I)V" } : Jvm.MethodName) prog_14_method_32_code (3 : Nat) (Option.none : Option FieldType)) ∈ z_ws := z_wt 1709 (by decide +kernel) rfl
theorem zw_1710 : (methodLink "TidewaterModel" (336 : Nat) ({ cls := "TidewaterModel", name := "loses", desc := "(I)V" } : Jvm.MethodName)) ∈ z_ws := z_wt 1710 (by decide +kernel) rfl
theorem zw_1712 : (instanceMethod ({ cls := "TidewaterModel", name := "loses", desc := "(I)V" } : Jvm.MethodName)) ∈ z_ws := z_wt 1712 (by decide +kernel) rfl
theorem zw_1713 : (code ({ cls := "TidewaterModel", name := "loses", desc := "(I)V" } : Jvm.MethodName) prog_14_method_31_code (2 : Nat) (Option.none : Option FieldType)) ∈ z_ws := z_wt 1713 (by decide +kernel) rfl
theorem zw_1714 : (methodLink "TidewaterModel" (354 : Nat) ({ cls := "TidewaterModel", name := "losesByTime", desc := "(I)V" } : Jvm.MethodName)) ∈ z_ws := z_wt 1714 (by decide +kernel) rfl
theorem zw_1716 : (instanceMethod ({ cls := "TidewaterModel", name := "losesByTime", desc := "(I)V" } : Jvm.MethodName)) ∈ z_ws := z_wt 1716 (by decide +kernel) rfl
theorem zw_1717 : (code ({ cls := "TidewaterModel", name := "losesByTime", desc := "(I)V" } : Jvm.MethodName) prog_14_method_33_code (4 : Nat) (Option.none : Option FieldType)) ∈ z_ws := z_wt 1717 (by decide +kernel) rfl
theorem zw_1718 : (methodLink "TidewaterModel" (427 : Nat) ({ cls := "TidewaterModel", name := "probesOn", desc := "(I)V" } : Jvm.MethodName)) ∈ z_ws := z_wt 1718 (by decide +kernel) rfl
theorem zw_1720 : (instanceMethod ({ cls := "TidewaterModel", name := "probesOn", desc := "(I)V" } : Jvm.MethodName)) ∈ z_ws := z_wt 1720 (by decide +kernel) rfl
theorem zw_1721 : (code ({ cls := "TidewaterModel", name := "probesOn", desc := "(I)V" } : Jvm.MethodName) prog_14_method_48_code (4 : Nat) (Option.none : Option FieldType)) ∈ z_ws := z_wt 1721 (by decide +kernel) rfl
theorem zw_1722 : (methodLink "TidewaterModel" (405 : Nat) ({ cls := "TidewaterModel", name := "sends", desc := "(IIIIZ)V" } : Jvm.MethodName)) ∈ z_ws := z_wt 1722 (by decide +kernel) rfl
theorem zw_1724 : (instanceMethod ({ cls := "TidewaterModel", name := "sends", desc := "(IIIIZ)V" } : Jvm.MethodName)) ∈ z_ws := z_wt 1724 (by decide +kernel) rfl
theorem zw_1725 : (code ({ cls := "TidewaterModel", name := "sends", desc := "(IIIIZ)V" } : Jvm.MethodName) prog_14_method_39_code (8 : Nat) (Option.none : Option FieldType)) ∈ z_ws := z_wt 1725 (by decide +kernel) rfl
theorem zw_1726 : (methodLink "TidewaterModel" (430 : Nat) ({ cls := "TidewaterModel", name := "sendsAll", desc := "()V" } : Jvm.MethodName)) ∈ z_ws := z_wt 1726 (by decide +kernel) rfl
theorem zw_1728 : (instanceMethod ({ cls := "TidewaterModel", name := "sendsAll", desc := "()V" } : Jvm.MethodName)) ∈ z_ws := z_wt 1728 (by decide +kernel) rfl
theorem zw_1729 : (code ({ cls := "TidewaterModel", name := "sendsAll", desc := "()V" } : Jvm.MethodName) prog_14_method_47_code (3 : Nat) (Option.none : Option FieldType)) ∈ z_ws := z_wt 1729 (by decide +kernel) rfl
theorem zw_1730 : (methodLink "TidewaterModel" (412 : Nat) ({ cls := "TidewaterModel", name := "nextPath", desc := "()I" } : Jvm.MethodName)) ∈ z_ws := z_wt 1730 (by decide +kernel) rfl
theorem zw_1732 : (instanceMethod ({ cls := "TidewaterModel", name := "nextPath", desc := "()I" } : Jvm.MethodName)) ∈ z_ws := z_wt 1732 (by decide +kernel) rfl
theorem zw_1733 : (code ({ cls := "TidewaterModel", name := "nextPath", desc := "()I" } : Jvm.MethodName) prog_14_method_45_code (3 : Nat) (Option.some FieldType.int)) ∈ z_ws := z_wt 1733 (by decide +kernel) rfl
theorem zw_1734 : (methodLink "TidewaterModel" (399 : Nat) ({ cls := "TidewaterModel", name := "canTake", desc := "(I)Z" } : Jvm.MethodName)) ∈ z_ws := z_wt 1734 (by decide +kernel) rfl
theorem zw_1736 : (instanceMethod ({ cls := "TidewaterModel", name := "canTake", desc := "(I)Z" } : Jvm.MethodName)) ∈ z_ws := z_wt 1736 (by decide +kernel) rfl
theorem zw_1737 : (code ({ cls := "TidewaterModel", name := "canTake", desc := "(I)Z" } : Jvm.MethodName) prog_14_method_44_code (4 : Nat) (Option.some FieldType.boolean)) ∈ z_ws := z_wt 1737 (by decide +kernel) rfl
theorem zw_1738 : (methodLink "TidewaterModel" (396 : Nat) ({ cls := "TidewaterModel", name := "inFlight", desc := "(I)I" } : Jvm.MethodName)) ∈ z_ws := z_wt 1738 (by decide +kernel) rfl
theorem zw_1740 : (instanceMethod ({ cls := "TidewaterModel", name := "inFlight", desc := "(I)I" } : Jvm.MethodName)) ∈ z_ws := z_wt 1740 (by decide +kernel) rfl
theorem zw_1741 : (code ({ cls := "TidewaterModel", name := "inFlight", desc := "(I)I" } : Jvm.MethodName) prog_14_method_26_code (4 : Nat) (Option.some FieldType.int)) ∈ z_ws := z_wt 1741 (by decide +kernel) rfl
theorem zw_1742 : (methodLink "TidewaterModel" (415 : Nat) ({ cls := "TidewaterModel", name := "sendsNext", desc := "(I)Z" } : Jvm.MethodName)) ∈ z_ws := z_wt 1742 (by decide +kernel) rfl
theorem zw_1744 : (instanceMethod ({ cls := "TidewaterModel", name := "sendsNext", desc := "(I)Z" } : Jvm.MethodName)) ∈ z_ws := z_wt 1744 (by decide +kernel) rfl
theorem zw_1745 : (code ({ cls := "TidewaterModel", name := "sendsNext", desc := "(I)Z" } : Jvm.MethodName) prog_14_method_46_code (5 : Nat) (Option.some FieldType.boolean)) ∈ z_ws := z_wt 1745 (by decide +kernel) rfl
theorem zw_1746 : (methodLink "TidewaterModel" (402 : Nat) ({ cls := "TidewaterModel", name := "firstLost", desc := "(I)I" } : Jvm.MethodName)) ∈ z_ws := z_wt 1746 (by decide +kernel) rfl
theorem zw_1748 : (instanceMethod ({ cls := "TidewaterModel", name := "firstLost", desc := "(I)I" } : Jvm.MethodName)) ∈ z_ws := z_wt 1748 (by decide +kernel) rfl
theorem zw_1749 : (code ({ cls := "TidewaterModel", name := "firstLost", desc := "(I)I" } : Jvm.MethodName) prog_14_method_41_code (3 : Nat) (Option.some FieldType.int)) ∈ z_ws := z_wt 1749 (by decide +kernel) rfl
theorem zw_1750 : (methodLink "TidewaterModel" (385 : Nat) ({ cls := "TidewaterModel", name := "isLost", desc := "(II)Z" } : Jvm.MethodName)) ∈ z_ws := z_wt 1750 (by decide +kernel) rfl
theorem zw_1752 : (instanceMethod ({ cls := "TidewaterModel", name := "isLost", desc := "(II)Z" } : Jvm.MethodName)) ∈ z_ws := z_wt 1752 (by decide +kernel) rfl
theorem zw_1753 : (code ({ cls := "TidewaterModel", name := "isLost", desc := "(II)Z" } : Jvm.MethodName) prog_14_method_40_code (3 : Nat) (Option.some FieldType.boolean)) ∈ z_ws := z_wt 1753 (by decide +kernel) rfl
theorem zw_1754 : (methodLink "TidewaterModel" (409 : Nat) ({ cls := "TidewaterModel", name := "newOf", desc := "(I)I" } : Jvm.MethodName)) ∈ z_ws := z_wt 1754 (by decide +kernel) rfl
theorem zw_1756 : (instanceMethod ({ cls := "TidewaterModel", name := "newOf", desc := "(I)I" } : Jvm.MethodName)) ∈ z_ws := z_wt 1756 (by decide +kernel) rfl
theorem zw_1757 : (code ({ cls := "TidewaterModel", name := "newOf", desc := "(I)I" } : Jvm.MethodName) prog_14_method_43_code (5 : Nat) (Option.some FieldType.int)) ∈ z_ws := z_wt 1757 (by decide +kernel) rfl
theorem zw_1758 : (methodLink "TidewaterModel" (389 : Nat) ({ cls := "TidewaterModel", name := "sentInAll", desc := "()I" } : Jvm.MethodName)) ∈ z_ws := z_wt 1758 (by decide +kernel) rfl
theorem zw_1760 : (instanceMethod ({ cls := "TidewaterModel", name := "sentInAll", desc := "()I" } : Jvm.MethodName)) ∈ z_ws := z_wt 1760 (by decide +kernel) rfl
theorem zw_1761 : (code ({ cls := "TidewaterModel", name := "sentInAll", desc := "()I" } : Jvm.MethodName) prog_14_method_42_code (1 : Nat) (Option.some FieldType.int)) ∈ z_ws := z_wt 1761 (by decide +kernel) rfl
theorem zw_1762 : (methodLink "TidewaterModel" (433 : Nat) ({ cls := "TidewaterModel", name := "leaves", desc := "(I)V" } : Jvm.MethodName)) ∈ z_ws := z_wt 1762 (by decide +kernel) rfl
theorem zw_1764 : (instanceMethod ({ cls := "TidewaterModel", name := "leaves", desc := "(I)V" } : Jvm.MethodName)) ∈ z_ws := z_wt 1764 (by decide +kernel) rfl
theorem zw_1765 : (code ({ cls := "TidewaterModel", name := "leaves", desc := "(I)V" } : Jvm.MethodName) prog_14_method_15_code (6 : Nat) (Option.none : Option FieldType)) ∈ z_ws := z_wt 1765 (by decide +kernel) rfl
theorem zw_1766 : (methodLink "TidewaterLaw" (158 : Nat) ({ cls := "TidewaterModel", name := "now", desc := "()I" } : Jvm.MethodName)) ∈ z_ws := z_wt 1766 (by decide +kernel) rfl
theorem zw_1767 : (instanceMethod ({ cls := "TidewaterModel", name := "now", desc := "()I" } : Jvm.MethodName)) ∈ z_ws := z_wt 1767 (by decide +kernel) rfl
theorem zw_1768 : (selects "TidewaterModel" ({ cls := "TidewaterModel", name := "now", desc := "()I" } : Jvm.MethodName) ({ cls := "TidewaterModel", name := "now", desc := "()I" } : Jvm.MethodName)) ∈ z_ws := z_wt 1768 (by decide +kernel) rfl
theorem zw_1769 : (code ({ cls := "TidewaterModel", name := "now", desc := "()I" } : Jvm.MethodName) prog_14_method_58_code (1 : Nat) (Option.some FieldType.int)) ∈ z_ws := z_wt 1769 (by decide +kernel) rfl
theorem zw_1770 : (methodLink "TidewaterLaw" (161 : Nat) ({ cls := "TidewaterModel", name := "state", desc := "(I)I" } : Jvm.MethodName)) ∈ z_ws := z_wt 1770 (by decide +kernel) rfl
theorem zw_1771 : (instanceMethod ({ cls := "TidewaterModel", name := "state", desc := "(I)I" } : Jvm.MethodName)) ∈ z_ws := z_wt 1771 (by decide +kernel) rfl
theorem zw_1772 : (selects "TidewaterModel" ({ cls := "TidewaterModel", name := "state", desc := "(I)I" } : Jvm.MethodName) ({ cls := "TidewaterModel", name := "state", desc := "(I)I" } : Jvm.MethodName)) ∈ z_ws := z_wt 1772 (by decide +kernel) rfl
theorem zw_1773 : (code ({ cls := "TidewaterModel", name := "state", desc := "(I)I" } : Jvm.MethodName) prog_14_method_59_code (2 : Nat) (Option.some FieldType.int)) ∈ z_ws := z_wt 1773 (by decide +kernel) rfl
theorem zw_1774 : (methodLink "TidewaterLaw" (164 : Nat) ({ cls := "TidewaterModel", name := "path", desc := "(II)I" } : Jvm.MethodName)) ∈ z_ws := z_wt 1774 (by decide +kernel) rfl
theorem zw_1775 : (instanceMethod ({ cls := "TidewaterModel", name := "path", desc := "(II)I" } : Jvm.MethodName)) ∈ z_ws := z_wt 1775 (by decide +kernel) rfl
theorem zw_1776 : (selects "TidewaterModel" ({ cls := "TidewaterModel", name := "path", desc := "(II)I" } : Jvm.MethodName) ({ cls := "TidewaterModel", name := "path", desc := "(II)I" } : Jvm.MethodName)) ∈ z_ws := z_wt 1776 (by decide +kernel) rfl
theorem zw_1777 : (code ({ cls := "TidewaterModel", name := "path", desc := "(II)I" } : Jvm.MethodName) prog_14_method_60_code (3 : Nat) (Option.some FieldType.int)) ∈ z_ws := z_wt 1777 (by decide +kernel) rfl
theorem zw_1778 : (methodLink "TidewaterLaw" (167 : Nat) ({ cls := "TidewaterModel", name := "stream", desc := "(II)I" } : Jvm.MethodName)) ∈ z_ws := z_wt 1778 (by decide +kernel) rfl
theorem zw_1779 : (instanceMethod ({ cls := "TidewaterModel", name := "stream", desc := "(II)I" } : Jvm.MethodName)) ∈ z_ws := z_wt 1779 (by decide +kernel) rfl
theorem zw_1780 : (selects "TidewaterModel" ({ cls := "TidewaterModel", name := "stream", desc := "(II)I" } : Jvm.MethodName) ({ cls := "TidewaterModel", name := "stream", desc := "(II)I" } : Jvm.MethodName)) ∈ z_ws := z_wt 1780 (by decide +kernel) rfl
theorem zw_1781 : (code ({ cls := "TidewaterModel", name := "stream", desc := "(II)I" } : Jvm.MethodName) prog_14_method_61_code (5 : Nat) (Option.some FieldType.int)) ∈ z_ws := z_wt 1781 (by decide +kernel) rfl
theorem zw_1782 : (methodLink "TidewaterLaw" (171 : Nat) ({ cls := "TidewaterModel", name := "credit", desc := "()I" } : Jvm.MethodName)) ∈ z_ws := z_wt 1782 (by decide +kernel) rfl
theorem zw_1783 : (instanceMethod ({ cls := "TidewaterModel", name := "credit", desc := "()I" } : Jvm.MethodName)) ∈ z_ws := z_wt 1783 (by decide +kernel) rfl
theorem zw_1784 : (selects "TidewaterModel" ({ cls := "TidewaterModel", name := "credit", desc := "()I" } : Jvm.MethodName) ({ cls := "TidewaterModel", name := "credit", desc := "()I" } : Jvm.MethodName)) ∈ z_ws := z_wt 1784 (by decide +kernel) rfl
theorem zw_1785 : (code ({ cls := "TidewaterModel", name := "credit", desc := "()I" } : Jvm.MethodName) prog_14_method_62_code (1 : Nat) (Option.some FieldType.int)) ∈ z_ws := z_wt 1785 (by decide +kernel) rfl
theorem zw_1786 : (methodLink "TidewaterLaw" (175 : Nat) ({ cls := "TidewaterModel", name := "packets", desc := "()I" } : Jvm.MethodName)) ∈ z_ws := z_wt 1786 (by decide +kernel) rfl
theorem zw_1787 : (instanceMethod ({ cls := "TidewaterModel", name := "packets", desc := "()I" } : Jvm.MethodName)) ∈ z_ws := z_wt 1787 (by decide +kernel) rfl
theorem zw_1788 : (selects "TidewaterModel" ({ cls := "TidewaterModel", name := "packets", desc := "()I" } : Jvm.MethodName) ({ cls := "TidewaterModel", name := "packets", desc := "()I" } : Jvm.MethodName)) ∈ z_ws := z_wt 1788 (by decide +kernel) rfl
theorem zw_1789 : (code ({ cls := "TidewaterModel", name := "packets", desc := "()I" } : Jvm.MethodName) prog_14_method_63_code (1 : Nat) (Option.some FieldType.int)) ∈ z_ws := z_wt 1789 (by decide +kernel) rfl
theorem zw_1790 : (methodLink "TidewaterLaw" (178 : Nat) ({ cls := "TidewaterModel", name := "packet", desc := "(II)I" } : Jvm.MethodName)) ∈ z_ws := z_wt 1790 (by decide +kernel) rfl
theorem zw_1791 : (instanceMethod ({ cls := "TidewaterModel", name := "packet", desc := "(II)I" } : Jvm.MethodName)) ∈ z_ws := z_wt 1791 (by decide +kernel) rfl
theorem zw_1792 : (selects "TidewaterModel" ({ cls := "TidewaterModel", name := "packet", desc := "(II)I" } : Jvm.MethodName) ({ cls := "TidewaterModel", name := "packet", desc := "(II)I" } : Jvm.MethodName)) ∈ z_ws := z_wt 1792 (by decide +kernel) rfl
theorem zw_1793 : (code ({ cls := "TidewaterModel", name := "packet", desc := "(II)I" } : Jvm.MethodName) prog_14_method_64_code (3 : Nat) (Option.some FieldType.int)) ∈ z_ws := z_wt 1793 (by decide +kernel) rfl
theorem zw_1794 : (methodLink "TidewaterLaw" (181 : Nat) ({ cls := "TidewaterModel", name := "count", desc := "(I)I" } : Jvm.MethodName)) ∈ z_ws := z_wt 1794 (by decide +kernel) rfl
theorem zw_1795 : (instanceMethod ({ cls := "TidewaterModel", name := "count", desc := "(I)I" } : Jvm.MethodName)) ∈ z_ws := z_wt 1795 (by decide +kernel) rfl
theorem zw_1796 : (selects "TidewaterModel" ({ cls := "TidewaterModel", name := "count", desc := "(I)I" } : Jvm.MethodName) ({ cls := "TidewaterModel", name := "count", desc := "(I)I" } : Jvm.MethodName)) ∈ z_ws := z_wt 1796 (by decide +kernel) rfl
theorem zw_1797 : (code ({ cls := "TidewaterModel", name := "count", desc := "(I)I" } : Jvm.MethodName) prog_14_method_65_code (2 : Nat) (Option.some FieldType.int)) ∈ z_ws := z_wt 1797 (by decide +kernel) rfl
theorem zw_1798 : (methodLink "TidewaterLaw" (184 : Nat) ({ cls := "TidewaterModel", name := "inFlightAnew", desc := "(I)I" } : Jvm.MethodName)) ∈ z_ws := z_wt 1798 (by decide +kernel) rfl
theorem zw_1799 : (instanceMethod ({ cls := "TidewaterModel", name := "inFlightAnew", desc := "(I)I" } : Jvm.MethodName)) ∈ z_ws := z_wt 1799 (by decide +kernel) rfl
theorem zw_1800 : (selects "TidewaterModel" ({ cls := "TidewaterModel", name := "inFlightAnew", desc := "(I)I" } : Jvm.MethodName) ({ cls := "TidewaterModel", name := "inFlightAnew", desc := "(I)I" } : Jvm.MethodName)) ∈ z_ws := z_wt 1800 (by decide +kernel) rfl
theorem zw_1801 : (code ({ cls := "TidewaterModel", name := "inFlightAnew", desc := "(I)I" } : Jvm.MethodName) prog_14_method_66_code (2 : Nat) (Option.some FieldType.int)) ∈ z_ws := z_wt 1801 (by decide +kernel) rfl
theorem zw_1802 : (methodLink "TidewaterLaw" (187 : Nat) ({ cls := "TidewaterModel", name := "gotAnew", desc := "(I)I" } : Jvm.MethodName)) ∈ z_ws := z_wt 1802 (by decide +kernel) rfl
theorem zw_1803 : (instanceMethod ({ cls := "TidewaterModel", name := "gotAnew", desc := "(I)I" } : Jvm.MethodName)) ∈ z_ws := z_wt 1803 (by decide +kernel) rfl
theorem zw_1804 : (selects "TidewaterModel" ({ cls := "TidewaterModel", name := "gotAnew", desc := "(I)I" } : Jvm.MethodName) ({ cls := "TidewaterModel", name := "gotAnew", desc := "(I)I" } : Jvm.MethodName)) ∈ z_ws := z_wt 1804 (by decide +kernel) rfl
theorem zw_1805 : (code ({ cls := "TidewaterModel", name := "gotAnew", desc := "(I)I" } : Jvm.MethodName) prog_14_method_67_code (5 : Nat) (Option.some FieldType.int)) ∈ z_ws := z_wt 1805 (by decide +kernel) rfl
theorem zw_1806 : (arrayClass FieldType.long) ∈ z_ws := z_wt 1806 (by decide +kernel) rfl
theorem zp_0 : Cond.selects "java/lang/Throwable" ⟨"java/lang/Throwable", "fillInStackTrace", "(I)Ljava/lang/Throwable;"⟩ ⟨"java/lang/Throwable", "fillInStackTrace", "(I)Ljava/lang/Throwable;"⟩ ∈ z_ws := z_wp 0 (by decide +kernel) rfl
theorem zp_1 : Cond.selects "Tidewater$Server" ⟨"Tidewater$Server", "acknowledge", "()V"⟩ ⟨"Tidewater$Server", "acknowledge", "()V"⟩ ∈ z_ws := z_wp 1 (by decide +kernel) rfl
theorem zp_2 : Cond.selects "Tidewater$Server" ⟨"Tidewater$Server", "makeAck", "()LTidewater$Ack;"⟩ ⟨"Tidewater$Server", "makeAck", "()LTidewater$Ack;"⟩ ∈ z_ws := z_wp 2 (by decide +kernel) rfl
theorem zp_3 : Cond.selects "Tidewater$Server" ⟨"Tidewater$Server", "nextTaken", "(IZ)I"⟩ ⟨"Tidewater$Server", "nextTaken", "(IZ)I"⟩ ∈ z_ws := z_wp 3 (by decide +kernel) rfl
theorem zp_4 : Cond.selects "Tidewater$Client" ⟨"Tidewater$Client", "sayHello", "()V"⟩ ⟨"Tidewater$Client", "sayHello", "()V"⟩ ∈ z_ws := z_wp 4 (by decide +kernel) rfl
theorem zp_5 : Cond.selects "Tidewater$Server" ⟨"Tidewater$Server", "hear", "(LTidewater$Message;)V"⟩ ⟨"Tidewater$Server", "hear", "(LTidewater$Message;)V"⟩ ∈ z_ws := z_wp 5 (by decide +kernel) rfl
theorem zp_6 : Cond.selects "Tidewater$Server" ⟨"Tidewater$Server", "hearHello", "(LTidewater$Message;)V"⟩ ⟨"Tidewater$Server", "hearHello", "(LTidewater$Message;)V"⟩ ∈ z_ws := z_wp 6 (by decide +kernel) rfl
theorem zp_7 : Cond.selects "Tidewater$Server" ⟨"Tidewater$Server", "useTicket", "(I)Z"⟩ ⟨"Tidewater$Server", "useTicket", "(I)Z"⟩ ∈ z_ws := z_wp 7 (by decide +kernel) rfl
theorem zp_8 : Cond.selects "Tidewater$Server" ⟨"Tidewater$Server", "hearWhenEstablished", "(LTidewater$Message;)V"⟩ ⟨"Tidewater$Server", "hearWhenEstablished", "(LTidewater$Message;)V"⟩ ∈ z_ws := z_wp 8 (by decide +kernel) rfl
theorem zp_9 : Cond.selects "Tidewater$Server" ⟨"Tidewater$Server", "hearData", "(LTidewater$Packet;)V"⟩ ⟨"Tidewater$Server", "hearData", "(LTidewater$Packet;)V"⟩ ∈ z_ws := z_wp 9 (by decide +kernel) rfl
theorem zp_10 : Cond.selects "Tidewater$Server" ⟨"Tidewater$Server", "takesKey", "(I)Z"⟩ ⟨"Tidewater$Server", "takesKey", "(I)Z"⟩ ∈ z_ws := z_wp 10 (by decide +kernel) rfl
theorem zp_11 : Cond.selects "Tidewater$Client" ⟨"Tidewater$Client", "hear", "(LTidewater$Message;)V"⟩ ⟨"Tidewater$Client", "hear", "(LTidewater$Message;)V"⟩ ∈ z_ws := z_wp 11 (by decide +kernel) rfl
theorem zp_12 : Cond.selects "Tidewater$Client" ⟨"Tidewater$Client", "hearAccept", "(Z)V"⟩ ⟨"Tidewater$Client", "hearAccept", "(Z)V"⟩ ∈ z_ws := z_wp 12 (by decide +kernel) rfl
theorem zp_13 : Cond.selects "Tidewater$Client" ⟨"Tidewater$Client", "leaveFlight", "(LTidewater$Packet;I)V"⟩ ⟨"Tidewater$Client", "leaveFlight", "(LTidewater$Packet;I)V"⟩ ∈ z_ws := z_wp 13 (by decide +kernel) rfl
theorem zp_14 : Cond.selects "Tidewater$Client" ⟨"Tidewater$Client", "hearAck", "(LTidewater$Ack;)V"⟩ ⟨"Tidewater$Client", "hearAck", "(LTidewater$Ack;)V"⟩ ∈ z_ws := z_wp 14 (by decide +kernel) rfl
theorem zp_15 : Cond.selects "Tidewater$Client" ⟨"Tidewater$Client", "acknowledge", "(LTidewater$Packet;)V"⟩ ⟨"Tidewater$Client", "acknowledge", "(LTidewater$Packet;)V"⟩ ∈ z_ws := z_wp 15 (by decide +kernel) rfl
theorem zp_16 : Cond.selects "Tidewater$Growth" ⟨"Tidewater$Growth", "keepRate", "(I)V"⟩ ⟨"Tidewater$Growth", "keepRate", "(I)V"⟩ ∈ z_ws := z_wp 16 (by decide +kernel) rfl
theorem zp_17 : Cond.selects "Tidewater$Growth" ⟨"Tidewater$Growth", "greatestRate", "()I"⟩ ⟨"Tidewater$Growth", "greatestRate", "()I"⟩ ∈ z_ws := z_wp 17 (by decide +kernel) rfl
theorem zp_18 : Cond.selects "Tidewater$Growth" ⟨"Tidewater$Growth", "cubeStep", "(I)I"⟩ ⟨"Tidewater$Growth", "cubeStep", "(I)I"⟩ ∈ z_ws := z_wp 18 (by decide +kernel) rfl
theorem zp_19 : Cond.selects "Tidewater$Client" ⟨"Tidewater$Client", "hearOfGreatest", "(LTidewater$Packet;ZI)V"⟩ ⟨"Tidewater$Client", "hearOfGreatest", "(LTidewater$Packet;ZI)V"⟩ ∈ z_ws := z_wp 19 (by decide +kernel) rfl
theorem zp_20 : Cond.selects "Tidewater$Client" ⟨"Tidewater$Client", "takeCredits", "(LTidewater$Ack;)V"⟩ ⟨"Tidewater$Client", "takeCredits", "(LTidewater$Ack;)V"⟩ ∈ z_ws := z_wp 20 (by decide +kernel) rfl
theorem zp_21 : Cond.selects "Tidewater$Client" ⟨"Tidewater$Client", "findLosses", "(LTidewater$Route;Z)V"⟩ ⟨"Tidewater$Client", "findLosses", "(LTidewater$Route;Z)V"⟩ ∈ z_ws := z_wp 21 (by decide +kernel) rfl
theorem zp_22 : Cond.selects "Tidewater$Client" ⟨"Tidewater$Client", "lowestInFlight", "(LTidewater$Route;)LTidewater$Packet;"⟩ ⟨"Tidewater$Client", "lowestInFlight", "(LTidewater$Route;)LTidewater$Packet;"⟩ ∈ z_ws := z_wp 22 (by decide +kernel) rfl
theorem zp_23 : Cond.selects "Tidewater$Client" ⟨"Tidewater$Client", "probeInTime", "(LTidewater$Route;)V"⟩ ⟨"Tidewater$Client", "probeInTime", "(LTidewater$Route;)V"⟩ ∈ z_ws := z_wp 23 (by decide +kernel) rfl
theorem zp_24 : Cond.selects "Tidewater$Client" ⟨"Tidewater$Client", "sendPacket", "(LTidewater$Route;IIIZ)V"⟩ ⟨"Tidewater$Client", "sendPacket", "(LTidewater$Route;IIIZ)V"⟩ ∈ z_ws := z_wp 24 (by decide +kernel) rfl
theorem zp_25 : Cond.selects "Tidewater$Client" ⟨"Tidewater$Client", "routeToSend", "()LTidewater$Route;"⟩ ⟨"Tidewater$Client", "routeToSend", "()LTidewater$Route;"⟩ ∈ z_ws := z_wp 25 (by decide +kernel) rfl
theorem zp_26 : Cond.selects "Tidewater$Route" ⟨"Tidewater$Route", "mostPerTick", "()I"⟩ ⟨"Tidewater$Route", "mostPerTick", "()I"⟩ ∈ z_ws := z_wp 26 (by decide +kernel) rfl
theorem zp_27 : Cond.selects "Tidewater$Client" ⟨"Tidewater$Client", "sendLost", "(LTidewater$Route;)Z"⟩ ⟨"Tidewater$Client", "sendLost", "(LTidewater$Route;)Z"⟩ ∈ z_ws := z_wp 27 (by decide +kernel) rfl
theorem zp_28 : Cond.selects "Tidewater$Client" ⟨"Tidewater$Client", "sendNew", "(LTidewater$Route;)Z"⟩ ⟨"Tidewater$Client", "sendNew", "(LTidewater$Route;)Z"⟩ ∈ z_ws := z_wp 28 (by decide +kernel) rfl
theorem zp_29 : Cond.selects "Tidewater$Network" ⟨"Tidewater$Network", "letLeaveLane", "(LTidewater$Lane;)V"⟩ ⟨"Tidewater$Network", "letLeaveLane", "(LTidewater$Lane;)V"⟩ ∈ z_ws := z_wp 29 (by decide +kernel) rfl
theorem zp_30 : Cond.selects "Tidewater" ⟨"Tidewater", "requirePacket", "(I)LTidewater$Packet;"⟩ ⟨"Tidewater", "requirePacket", "(I)LTidewater$Packet;"⟩ ∈ z_ws := z_wp 30 (by decide +kernel) rfl
theorem zp_31 : Cond.selects "TidewaterModel" ⟨"TidewaterModel", "goes", "(ZZZ)Z"⟩ ⟨"TidewaterModel", "goes", "(ZZZ)Z"⟩ ∈ z_ws := z_wp 31 (by decide +kernel) rfl
theorem zp_32 : Cond.selects "TidewaterModel" ⟨"TidewaterModel", "gotOf", "(I)I"⟩ ⟨"TidewaterModel", "gotOf", "(I)I"⟩ ∈ z_ws := z_wp 32 (by decide +kernel) rfl
theorem zp_33 : Cond.selects "TidewaterModel" ⟨"TidewaterModel", "acknowledges", "()V"⟩ ⟨"TidewaterModel", "acknowledges", "()V"⟩ ∈ z_ws := z_wp 33 (by decide +kernel) rfl
theorem zp_34 : Cond.selects "TidewaterModel" ⟨"TidewaterModel", "answers", "(III)V"⟩ ⟨"TidewaterModel", "answers", "(III)V"⟩ ∈ z_ws := z_wp 34 (by decide +kernel) rfl
theorem zp_35 : Cond.selects "TidewaterModel" ⟨"TidewaterModel", "saysHello", "()V"⟩ ⟨"TidewaterModel", "saysHello", "()V"⟩ ∈ z_ws := z_wp 35 (by decide +kernel) rfl
theorem zp_36 : Cond.selects "TidewaterModel" ⟨"TidewaterModel", "puts", "(III)V"⟩ ⟨"TidewaterModel", "puts", "(III)V"⟩ ∈ z_ws := z_wp 36 (by decide +kernel) rfl
theorem zp_37 : Cond.selects "TidewaterModel" ⟨"TidewaterModel", "passes", "()V"⟩ ⟨"TidewaterModel", "passes", "()V"⟩ ∈ z_ws := z_wp 37 (by decide +kernel) rfl
theorem zp_38 : Cond.selects "TidewaterModel" ⟨"TidewaterModel", "arrivesAtServer", "(I)V"⟩ ⟨"TidewaterModel", "arrivesAtServer", "(I)V"⟩ ∈ z_ws := z_wp 38 (by decide +kernel) rfl
theorem zp_39 : Cond.selects "TidewaterModel" ⟨"TidewaterModel", "hears", "(II)V"⟩ ⟨"TidewaterModel", "hears", "(II)V"⟩ ∈ z_ws := z_wp 39 (by decide +kernel) rfl
theorem zp_40 : Cond.selects "TidewaterModel" ⟨"TidewaterModel", "takes", "(I)V"⟩ ⟨"TidewaterModel", "takes", "(I)V"⟩ ∈ z_ws := z_wp 40 (by decide +kernel) rfl
theorem zp_41 : Cond.selects "TidewaterModel" ⟨"TidewaterModel", "isByKey", "(I)Z"⟩ ⟨"TidewaterModel", "isByKey", "(I)Z"⟩ ∈ z_ws := z_wp 41 (by decide +kernel) rfl
theorem zp_42 : Cond.selects "TidewaterModel" ⟨"TidewaterModel", "arrivesAtClient", "(I)V"⟩ ⟨"TidewaterModel", "arrivesAtClient", "(I)V"⟩ ∈ z_ws := z_wp 42 (by decide +kernel) rfl
theorem zp_43 : Cond.selects "TidewaterModel" ⟨"TidewaterModel", "hearsAccept", "(Z)V"⟩ ⟨"TidewaterModel", "hearsAccept", "(Z)V"⟩ ∈ z_ws := z_wp 43 (by decide +kernel) rfl
theorem zp_44 : Cond.selects "TidewaterModel" ⟨"TidewaterModel", "measures", "(II)V"⟩ ⟨"TidewaterModel", "measures", "(II)V"⟩ ∈ z_ws := z_wp 44 (by decide +kernel) rfl
theorem zp_45 : Cond.selects "TidewaterModel" ⟨"TidewaterModel", "lands", "(II)V"⟩ ⟨"TidewaterModel", "lands", "(II)V"⟩ ∈ z_ws := z_wp 45 (by decide +kernel) rfl
theorem zp_46 : Cond.selects "TidewaterModel" ⟨"TidewaterModel", "hearsAck", "(I)V"⟩ ⟨"TidewaterModel", "hearsAck", "(I)V"⟩ ∈ z_ws := z_wp 46 (by decide +kernel) rfl
theorem zp_47 : Cond.selects "TidewaterModel" ⟨"TidewaterModel", "hearsOf", "(I)V"⟩ ⟨"TidewaterModel", "hearsOf", "(I)V"⟩ ∈ z_ws := z_wp 47 (by decide +kernel) rfl
theorem zp_48 : Cond.selects "TidewaterModel" ⟨"TidewaterModel", "grows", "(I)V"⟩ ⟨"TidewaterModel", "grows", "(I)V"⟩ ∈ z_ws := z_wp 48 (by decide +kernel) rfl
theorem zp_49 : Cond.selects "TidewaterModel" ⟨"TidewaterModel", "byCube", "(I)I"⟩ ⟨"TidewaterModel", "byCube", "(I)I"⟩ ∈ z_ws := z_wp 49 (by decide +kernel) rfl
theorem zp_50 : Cond.selects "TidewaterModel" ⟨"TidewaterModel", "harms", "(IIZ)V"⟩ ⟨"TidewaterModel", "harms", "(IIZ)V"⟩ ∈ z_ws := z_wp 50 (by decide +kernel) rfl
theorem zp_51 : Cond.selects "TidewaterModel" ⟨"TidewaterModel", "losesByOrder", "(I)V"⟩ ⟨"TidewaterModel", "losesByOrder", "(I)V"⟩ ∈ z_ws := z_wp 51 (by decide +kernel) rfl
theorem zp_52 : Cond.selects "TidewaterModel" ⟨"TidewaterModel", "loses", "(I)V"⟩ ⟨"TidewaterModel", "loses", "(I)V"⟩ ∈ z_ws := z_wp 52 (by decide +kernel) rfl
theorem zp_53 : Cond.selects "TidewaterModel" ⟨"TidewaterModel", "losesByTime", "(I)V"⟩ ⟨"TidewaterModel", "losesByTime", "(I)V"⟩ ∈ z_ws := z_wp 53 (by decide +kernel) rfl
theorem zp_54 : Cond.selects "TidewaterModel" ⟨"TidewaterModel", "probesOn", "(I)V"⟩ ⟨"TidewaterModel", "probesOn", "(I)V"⟩ ∈ z_ws := z_wp 54 (by decide +kernel) rfl
theorem zp_55 : Cond.selects "TidewaterModel" ⟨"TidewaterModel", "sends", "(IIIIZ)V"⟩ ⟨"TidewaterModel", "sends", "(IIIIZ)V"⟩ ∈ z_ws := z_wp 55 (by decide +kernel) rfl
theorem zp_56 : Cond.selects "TidewaterModel" ⟨"TidewaterModel", "sendsAll", "()V"⟩ ⟨"TidewaterModel", "sendsAll", "()V"⟩ ∈ z_ws := z_wp 56 (by decide +kernel) rfl
theorem zp_57 : Cond.selects "TidewaterModel" ⟨"TidewaterModel", "nextPath", "()I"⟩ ⟨"TidewaterModel", "nextPath", "()I"⟩ ∈ z_ws := z_wp 57 (by decide +kernel) rfl
theorem zp_58 : Cond.selects "TidewaterModel" ⟨"TidewaterModel", "canTake", "(I)Z"⟩ ⟨"TidewaterModel", "canTake", "(I)Z"⟩ ∈ z_ws := z_wp 58 (by decide +kernel) rfl
theorem zp_59 : Cond.selects "TidewaterModel" ⟨"TidewaterModel", "inFlight", "(I)I"⟩ ⟨"TidewaterModel", "inFlight", "(I)I"⟩ ∈ z_ws := z_wp 59 (by decide +kernel) rfl
theorem zp_60 : Cond.selects "TidewaterModel" ⟨"TidewaterModel", "sendsNext", "(I)Z"⟩ ⟨"TidewaterModel", "sendsNext", "(I)Z"⟩ ∈ z_ws := z_wp 60 (by decide +kernel) rfl
theorem zp_61 : Cond.selects "TidewaterModel" ⟨"TidewaterModel", "firstLost", "(I)I"⟩ ⟨"TidewaterModel", "firstLost", "(I)I"⟩ ∈ z_ws := z_wp 61 (by decide +kernel) rfl
theorem zp_62 : Cond.selects "TidewaterModel" ⟨"TidewaterModel", "isLost", "(II)Z"⟩ ⟨"TidewaterModel", "isLost", "(II)Z"⟩ ∈ z_ws := z_wp 62 (by decide +kernel) rfl
theorem zp_63 : Cond.selects "TidewaterModel" ⟨"TidewaterModel", "newOf", "(I)I"⟩ ⟨"TidewaterModel", "newOf", "(I)I"⟩ ∈ z_ws := z_wp 63 (by decide +kernel) rfl
theorem zp_64 : Cond.selects "TidewaterModel" ⟨"TidewaterModel", "sentInAll", "()I"⟩ ⟨"TidewaterModel", "sentInAll", "()I"⟩ ∈ z_ws := z_wp 64 (by decide +kernel) rfl
theorem zp_65 : Cond.selects "TidewaterModel" ⟨"TidewaterModel", "leaves", "(I)V"⟩ ⟨"TidewaterModel", "leaves", "(I)V"⟩ ∈ z_ws := z_wp 65 (by decide +kernel) rfl
