/-! ===== THE STRUCTURE of both objects ===== -/
def y_T : List (Nat × Nat × Nat) := [(128, 31, 1), (129, 31, 11), (130, 31, 32), (131, 31, 35), (132, 31, 38), (265, 33, 34), (265, 36, 37), (393, 2, 3), (393, 4, 5), (640, 1, 2), (641, 1, 4), (642, 1, 6), (643, 1, 8), (644, 1, 10), (897, 32, 33), (897, 35, 36), (1024, 28, 1), (1025, 28, 11), (1029, 28, 29), (1033, 28, 30), (1159, 12, 13), (1159, 16, 17), (1159, 20, 21), (1159, 24, 25), (1160, 12, 14), (1160, 16, 18), (1160, 20, 22), (1160, 24, 26), (1161, 12, 15), (1161, 16, 19), (1161, 20, 23), (1161, 24, 27), (1280, 6, 7), (1280, 8, 9), (1408, 0, 1), (1409, 0, 11), (1410, 0, 28), (1411, 0, 31), (1412, 0, 39), (1537, 40, 41), (1538, 40, 42), (1539, 40, 43), (1540, 40, 44), (1541, 40, 45), (1542, 40, 46), (1543, 40, 47), (1544, 40, 48), (1545, 40, 49), (1546, 40, 50), (1547, 40, 51), (1548, 40, 52), (1549, 40, 53), (1550, 40, 54), (1552, 40, 55), (1553, 40, 56), (1555, 40, 57), (1556, 40, 58), (1557, 40, 59), (1558, 40, 60), (1560, 40, 61), (1565, 40, 62), (1569, 40, 63), (1570, 40, 64), (1571, 40, 65), (1586, 40, 66), (1587, 40, 67), (1588, 40, 68), (1591, 40, 69), (1592, 40, 70), (1593, 40, 71), (1594, 40, 72), (1595, 40, 73), (1596, 40, 74), (1597, 40, 75), (1598, 40, 76), (1599, 40, 77), (1600, 40, 78), (1601, 40, 79), (1602, 40, 80), (1603, 40, 81), (1604, 40, 82), (1605, 40, 83), (1607, 40, 84), (1608, 40, 85), (1609, 40, 86), (1610, 40, 87), (1611, 40, 88), (1612, 40, 89), (1613, 40, 90), (1614, 40, 91), (1615, 40, 92), (1616, 40, 93), (1617, 40, 94), (1618, 40, 95), (1619, 40, 96), (1620, 40, 97), (1621, 40, 98), (1622, 40, 99), (1623, 40, 100), (1624, 40, 101), (1625, 40, 102), (1626, 40, 103), (1627, 40, 104), (1628, 40, 105), (1629, 40, 106)]
def y_TL : List (Nat × Nat) := [(3, 30), (5, 30), (7, 1024), (9, 2048), (11, 4), (13, 200), (14, 200), (15, 200), (17, 200), (18, 200), (19, 200), (21, 200), (22, 200), (23, 200), (25, 200), (26, 200), (27, 200), (29, 10), (30, 400), (34, 8), (37, 8), (38, 400), (39, 200), (41, 2), (42, 2), (43, 2), (44, 2), (45, 2), (46, 2), (47, 2), (48, 2), (49, 2), (50, 60), (51, 2), (52, 1300), (53, 1300), (54, 1300), (55, 1300), (56, 1300), (57, 3600), (58, 3600), (59, 3600), (60, 3600), (61, 54000), (62, 10), (63, 400), (64, 800), (65, 4), (66, 4), (67, 4), (68, 4), (69, 800), (70, 800), (71, 400), (72, 400), (73, 400), (74, 400), (75, 400), (76, 400), (77, 400), (78, 400), (79, 400), (80, 400), (81, 400), (82, 400), (83, 400), (84, 2), (85, 2), (86, 2), (87, 2), (88, 2), (89, 2), (90, 2), (91, 2), (92, 2), (93, 2), (94, 2), (95, 2), (96, 2), (97, 2), (98, 16), (99, 2), (100, 2), (101, 2), (102, 2), (103, 2), (104, 2), (105, 2), (106, 6), (107, 1)]
def y_S (n : Nat) (M : z_Mem) : Prop := (∀ t, t ∈ y_T → z_fr M t.1 (n + t.2.1) = some (n + t.2.2)) ∧ (∀ t, t ∈ y_TL → z_ln M (n + t.1) = t.2) ∧ (∀ j, j < 4 → z_ar M (n + 11) j = some (n + (12 + 4 * j))) ∧ n + 108 ≤ z_sz M
theorem y_S.r {n : Nat} {M : z_Mem} (S : y_S n M) (i : Nat) {g a v : Nat} (e : y_T[i]? = some (g, a, v)) : z_fr M g (n + a) = some (n + v) := S.1 _ (List.mem_of_getElem? e)
theorem y_S.l {n : Nat} {M : z_Mem} (S : y_S n M) (i : Nat) {a l : Nat} (e : y_TL[i]? = some (a, l)) : z_ln M (n + a) = l := S.2.1 _ (List.mem_of_getElem? e)
def y_Tg (g : Nat) : Bool := y_T.all (fun t => !(t.1 == g))
section YS
variable {n : Nat} {M M1 : z_Mem}
theorem S_sfi {g a : Nat} {v : Int32} (S : y_S n M) : y_S n (z_sfi M g a v) := S
theorem S_sai {a j : Nat} {v : Int32} (S : y_S n M) : y_S n (z_sai M a j v) := S
theorem S_sal {a j : Nat} {v : Int64} (S : y_S n M) : y_S n (z_sal M a j v) := S
theorem S_sfr {g a : Nat} {v : Option Nat} (hg : y_Tg g = true) (S : y_S n M) : y_S n (z_sfr M g a v) := by
  refine ⟨fun t ht => ?_, S.2.1, S.2.2.1, S.2.2.2⟩
  have := List.all_eq_true.mp hg t ht
  rw [zq_fr_sfr, if_neg (by intro e; rw [e] at this; simp at this)]
  exact S.1 t ht
theorem S_sar {a j : Nat} {v : Option Nat} (ha : a ≠ n + 11) (S : y_S n M) : y_S n (z_sar M a j v) := by
  refine ⟨S.1, S.2.1, fun i hi => ?_, S.2.2.2⟩
  rw [zq_ar_sar, if_neg (Ne.symm ha)]; exact S.2.2.1 i hi
theorem S_srr {a : Nat} {f : Nat → Option Nat} (ha : a ≠ n + 11) (S : y_S n M) : y_S n (z_srr M a f) := by
  refine ⟨S.1, S.2.1, fun i hi => ?_, S.2.2.2⟩
  rw [zq_ar_srr, if_neg (Ne.symm ha)]; exact S.2.2.1 i hi
theorem y_Tlt : ∀ t, t ∈ y_T → t.2.1 < 108 := by
  have : y_T.all (fun t => decide (t.2.1 < 108)) = true := by decide +kernel
  intro t ht; exact of_decide_eq_true (List.all_eq_true.mp this t ht)
theorem y_TLlt : ∀ t, t ∈ y_TL → t.1 < 108 := by
  have : y_TL.all (fun t => decide (t.1 < 108)) = true := by decide +kernel
  intro t ht; exact of_decide_eq_true (List.all_eq_true.mp this t ht)
theorem S_new {k w : Nat} (S : y_S n M) : y_S n (z_new M k w) := by
  have hz := S.2.2.2
  refine ⟨fun t ht => ?_, S.2.1, S.2.2.1, Nat.le_succ_of_le hz⟩
  have := y_Tlt t ht
  rw [zq_fr_new, if_neg (by omega)]; exact S.1 t ht
theorem S_nwa {k w : Nat} (S : y_S n M) : y_S n (z_nwa M k w) := by
  have hz := S.2.2.2
  refine ⟨S.1, fun t ht => ?_, fun i hi => ?_, Nat.le_succ_of_le hz⟩
  · have := y_TLlt t ht
    rw [zq_ln_nwa, if_neg (by omega)]; exact S.2.1 t ht
  · rw [zq_ar_nwa, if_neg (by omega)]; exact S.2.2.1 i hi
theorem S_exc {k w : Nat} (S : y_S n M) : y_S n (z_exc M k w) := ⟨S.1, S.2.1, S.2.2.1, Nat.le_add_right_of_le S.2.2.2⟩
theorem s_128_31 (S : y_S n M) : z_fr M 128 (n + 31) = some (n + 1) := S.r 0 rfl
theorem s_129_31 (S : y_S n M) : z_fr M 129 (n + 31) = some (n + 11) := S.r 1 rfl
theorem s_130_31 (S : y_S n M) : z_fr M 130 (n + 31) = some (n + 32) := S.r 2 rfl
theorem s_131_31 (S : y_S n M) : z_fr M 131 (n + 31) = some (n + 35) := S.r 3 rfl
theorem s_132_31 (S : y_S n M) : z_fr M 132 (n + 31) = some (n + 38) := S.r 4 rfl
theorem s_265_33 (S : y_S n M) : z_fr M 265 (n + 33) = some (n + 34) := S.r 5 rfl
theorem s_265_36 (S : y_S n M) : z_fr M 265 (n + 36) = some (n + 37) := S.r 6 rfl
theorem s_393_2 (S : y_S n M) : z_fr M 393 (n + 2) = some (n + 3) := S.r 7 rfl
theorem s_393_4 (S : y_S n M) : z_fr M 393 (n + 4) = some (n + 5) := S.r 8 rfl
theorem s_640_1 (S : y_S n M) : z_fr M 640 (n + 1) = some (n + 2) := S.r 9 rfl
theorem s_641_1 (S : y_S n M) : z_fr M 641 (n + 1) = some (n + 4) := S.r 10 rfl
theorem s_642_1 (S : y_S n M) : z_fr M 642 (n + 1) = some (n + 6) := S.r 11 rfl
theorem s_643_1 (S : y_S n M) : z_fr M 643 (n + 1) = some (n + 8) := S.r 12 rfl
theorem s_644_1 (S : y_S n M) : z_fr M 644 (n + 1) = some (n + 10) := S.r 13 rfl
theorem s_897_32 (S : y_S n M) : z_fr M 897 (n + 32) = some (n + 33) := S.r 14 rfl
theorem s_897_35 (S : y_S n M) : z_fr M 897 (n + 35) = some (n + 36) := S.r 15 rfl
theorem s_1024_28 (S : y_S n M) : z_fr M 1024 (n + 28) = some (n + 1) := S.r 16 rfl
theorem s_1025_28 (S : y_S n M) : z_fr M 1025 (n + 28) = some (n + 11) := S.r 17 rfl
theorem s_1029_28 (S : y_S n M) : z_fr M 1029 (n + 28) = some (n + 29) := S.r 18 rfl
theorem s_1033_28 (S : y_S n M) : z_fr M 1033 (n + 28) = some (n + 30) := S.r 19 rfl
theorem s_1159_12 (S : y_S n M) : z_fr M 1159 (n + 12) = some (n + 13) := S.r 20 rfl
theorem s_1159_16 (S : y_S n M) : z_fr M 1159 (n + 16) = some (n + 17) := S.r 21 rfl
theorem s_1159_20 (S : y_S n M) : z_fr M 1159 (n + 20) = some (n + 21) := S.r 22 rfl
theorem s_1159_24 (S : y_S n M) : z_fr M 1159 (n + 24) = some (n + 25) := S.r 23 rfl
theorem s_1160_12 (S : y_S n M) : z_fr M 1160 (n + 12) = some (n + 14) := S.r 24 rfl
theorem s_1160_16 (S : y_S n M) : z_fr M 1160 (n + 16) = some (n + 18) := S.r 25 rfl
theorem s_1160_20 (S : y_S n M) : z_fr M 1160 (n + 20) = some (n + 22) := S.r 26 rfl
theorem s_1160_24 (S : y_S n M) : z_fr M 1160 (n + 24) = some (n + 26) := S.r 27 rfl
theorem s_1161_12 (S : y_S n M) : z_fr M 1161 (n + 12) = some (n + 15) := S.r 28 rfl
theorem s_1161_16 (S : y_S n M) : z_fr M 1161 (n + 16) = some (n + 19) := S.r 29 rfl
theorem s_1161_20 (S : y_S n M) : z_fr M 1161 (n + 20) = some (n + 23) := S.r 30 rfl
theorem s_1161_24 (S : y_S n M) : z_fr M 1161 (n + 24) = some (n + 27) := S.r 31 rfl
theorem s_1280_6 (S : y_S n M) : z_fr M 1280 (n + 6) = some (n + 7) := S.r 32 rfl
theorem s_1280_8 (S : y_S n M) : z_fr M 1280 (n + 8) = some (n + 9) := S.r 33 rfl
theorem s_1408_0 (S : y_S n M) : z_fr M 1408 (n + 0) = some (n + 1) := S.r 34 rfl
theorem s_1409_0 (S : y_S n M) : z_fr M 1409 (n + 0) = some (n + 11) := S.r 35 rfl
theorem s_1410_0 (S : y_S n M) : z_fr M 1410 (n + 0) = some (n + 28) := S.r 36 rfl
theorem s_1411_0 (S : y_S n M) : z_fr M 1411 (n + 0) = some (n + 31) := S.r 37 rfl
theorem s_1412_0 (S : y_S n M) : z_fr M 1412 (n + 0) = some (n + 39) := S.r 38 rfl
theorem s_1537_40 (S : y_S n M) : z_fr M 1537 (n + 40) = some (n + 41) := S.r 39 rfl
theorem s_1538_40 (S : y_S n M) : z_fr M 1538 (n + 40) = some (n + 42) := S.r 40 rfl
theorem s_1539_40 (S : y_S n M) : z_fr M 1539 (n + 40) = some (n + 43) := S.r 41 rfl
theorem s_1540_40 (S : y_S n M) : z_fr M 1540 (n + 40) = some (n + 44) := S.r 42 rfl
theorem s_1541_40 (S : y_S n M) : z_fr M 1541 (n + 40) = some (n + 45) := S.r 43 rfl
theorem s_1542_40 (S : y_S n M) : z_fr M 1542 (n + 40) = some (n + 46) := S.r 44 rfl
theorem s_1543_40 (S : y_S n M) : z_fr M 1543 (n + 40) = some (n + 47) := S.r 45 rfl
theorem s_1544_40 (S : y_S n M) : z_fr M 1544 (n + 40) = some (n + 48) := S.r 46 rfl
theorem s_1545_40 (S : y_S n M) : z_fr M 1545 (n + 40) = some (n + 49) := S.r 47 rfl
theorem s_1546_40 (S : y_S n M) : z_fr M 1546 (n + 40) = some (n + 50) := S.r 48 rfl
theorem s_1547_40 (S : y_S n M) : z_fr M 1547 (n + 40) = some (n + 51) := S.r 49 rfl
theorem s_1548_40 (S : y_S n M) : z_fr M 1548 (n + 40) = some (n + 52) := S.r 50 rfl
theorem s_1549_40 (S : y_S n M) : z_fr M 1549 (n + 40) = some (n + 53) := S.r 51 rfl
theorem s_1550_40 (S : y_S n M) : z_fr M 1550 (n + 40) = some (n + 54) := S.r 52 rfl
theorem s_1552_40 (S : y_S n M) : z_fr M 1552 (n + 40) = some (n + 55) := S.r 53 rfl
theorem s_1553_40 (S : y_S n M) : z_fr M 1553 (n + 40) = some (n + 56) := S.r 54 rfl
theorem s_1555_40 (S : y_S n M) : z_fr M 1555 (n + 40) = some (n + 57) := S.r 55 rfl
theorem s_1556_40 (S : y_S n M) : z_fr M 1556 (n + 40) = some (n + 58) := S.r 56 rfl
theorem s_1557_40 (S : y_S n M) : z_fr M 1557 (n + 40) = some (n + 59) := S.r 57 rfl
theorem s_1558_40 (S : y_S n M) : z_fr M 1558 (n + 40) = some (n + 60) := S.r 58 rfl
theorem s_1560_40 (S : y_S n M) : z_fr M 1560 (n + 40) = some (n + 61) := S.r 59 rfl
theorem s_1565_40 (S : y_S n M) : z_fr M 1565 (n + 40) = some (n + 62) := S.r 60 rfl
theorem s_1569_40 (S : y_S n M) : z_fr M 1569 (n + 40) = some (n + 63) := S.r 61 rfl
theorem s_1570_40 (S : y_S n M) : z_fr M 1570 (n + 40) = some (n + 64) := S.r 62 rfl
theorem s_1571_40 (S : y_S n M) : z_fr M 1571 (n + 40) = some (n + 65) := S.r 63 rfl
theorem s_1586_40 (S : y_S n M) : z_fr M 1586 (n + 40) = some (n + 66) := S.r 64 rfl
theorem s_1587_40 (S : y_S n M) : z_fr M 1587 (n + 40) = some (n + 67) := S.r 65 rfl
theorem s_1588_40 (S : y_S n M) : z_fr M 1588 (n + 40) = some (n + 68) := S.r 66 rfl
theorem s_1591_40 (S : y_S n M) : z_fr M 1591 (n + 40) = some (n + 69) := S.r 67 rfl
theorem s_1592_40 (S : y_S n M) : z_fr M 1592 (n + 40) = some (n + 70) := S.r 68 rfl
theorem s_1593_40 (S : y_S n M) : z_fr M 1593 (n + 40) = some (n + 71) := S.r 69 rfl
theorem s_1594_40 (S : y_S n M) : z_fr M 1594 (n + 40) = some (n + 72) := S.r 70 rfl
theorem s_1595_40 (S : y_S n M) : z_fr M 1595 (n + 40) = some (n + 73) := S.r 71 rfl
theorem s_1596_40 (S : y_S n M) : z_fr M 1596 (n + 40) = some (n + 74) := S.r 72 rfl
theorem s_1597_40 (S : y_S n M) : z_fr M 1597 (n + 40) = some (n + 75) := S.r 73 rfl
theorem s_1598_40 (S : y_S n M) : z_fr M 1598 (n + 40) = some (n + 76) := S.r 74 rfl
theorem s_1599_40 (S : y_S n M) : z_fr M 1599 (n + 40) = some (n + 77) := S.r 75 rfl
theorem s_1600_40 (S : y_S n M) : z_fr M 1600 (n + 40) = some (n + 78) := S.r 76 rfl
theorem s_1601_40 (S : y_S n M) : z_fr M 1601 (n + 40) = some (n + 79) := S.r 77 rfl
theorem s_1602_40 (S : y_S n M) : z_fr M 1602 (n + 40) = some (n + 80) := S.r 78 rfl
theorem s_1603_40 (S : y_S n M) : z_fr M 1603 (n + 40) = some (n + 81) := S.r 79 rfl
theorem s_1604_40 (S : y_S n M) : z_fr M 1604 (n + 40) = some (n + 82) := S.r 80 rfl
theorem s_1605_40 (S : y_S n M) : z_fr M 1605 (n + 40) = some (n + 83) := S.r 81 rfl
theorem s_1607_40 (S : y_S n M) : z_fr M 1607 (n + 40) = some (n + 84) := S.r 82 rfl
theorem s_1608_40 (S : y_S n M) : z_fr M 1608 (n + 40) = some (n + 85) := S.r 83 rfl
theorem s_1609_40 (S : y_S n M) : z_fr M 1609 (n + 40) = some (n + 86) := S.r 84 rfl
theorem s_1610_40 (S : y_S n M) : z_fr M 1610 (n + 40) = some (n + 87) := S.r 85 rfl
theorem s_1611_40 (S : y_S n M) : z_fr M 1611 (n + 40) = some (n + 88) := S.r 86 rfl
theorem s_1612_40 (S : y_S n M) : z_fr M 1612 (n + 40) = some (n + 89) := S.r 87 rfl
theorem s_1613_40 (S : y_S n M) : z_fr M 1613 (n + 40) = some (n + 90) := S.r 88 rfl
theorem s_1614_40 (S : y_S n M) : z_fr M 1614 (n + 40) = some (n + 91) := S.r 89 rfl
theorem s_1615_40 (S : y_S n M) : z_fr M 1615 (n + 40) = some (n + 92) := S.r 90 rfl
theorem s_1616_40 (S : y_S n M) : z_fr M 1616 (n + 40) = some (n + 93) := S.r 91 rfl
theorem s_1617_40 (S : y_S n M) : z_fr M 1617 (n + 40) = some (n + 94) := S.r 92 rfl
theorem s_1618_40 (S : y_S n M) : z_fr M 1618 (n + 40) = some (n + 95) := S.r 93 rfl
theorem s_1619_40 (S : y_S n M) : z_fr M 1619 (n + 40) = some (n + 96) := S.r 94 rfl
theorem s_1620_40 (S : y_S n M) : z_fr M 1620 (n + 40) = some (n + 97) := S.r 95 rfl
theorem s_1621_40 (S : y_S n M) : z_fr M 1621 (n + 40) = some (n + 98) := S.r 96 rfl
theorem s_1622_40 (S : y_S n M) : z_fr M 1622 (n + 40) = some (n + 99) := S.r 97 rfl
theorem s_1623_40 (S : y_S n M) : z_fr M 1623 (n + 40) = some (n + 100) := S.r 98 rfl
theorem s_1624_40 (S : y_S n M) : z_fr M 1624 (n + 40) = some (n + 101) := S.r 99 rfl
theorem s_1625_40 (S : y_S n M) : z_fr M 1625 (n + 40) = some (n + 102) := S.r 100 rfl
theorem s_1626_40 (S : y_S n M) : z_fr M 1626 (n + 40) = some (n + 103) := S.r 101 rfl
theorem s_1627_40 (S : y_S n M) : z_fr M 1627 (n + 40) = some (n + 104) := S.r 102 rfl
theorem s_1628_40 (S : y_S n M) : z_fr M 1628 (n + 40) = some (n + 105) := S.r 103 rfl
theorem s_1629_40 (S : y_S n M) : z_fr M 1629 (n + 40) = some (n + 106) := S.r 104 rfl
theorem s_l3 (S : y_S n M) : z_ln M (n + 3) = 30 := S.l 0 rfl
theorem s_l5 (S : y_S n M) : z_ln M (n + 5) = 30 := S.l 1 rfl
theorem s_l7 (S : y_S n M) : z_ln M (n + 7) = 1024 := S.l 2 rfl
theorem s_l9 (S : y_S n M) : z_ln M (n + 9) = 2048 := S.l 3 rfl
theorem s_l11 (S : y_S n M) : z_ln M (n + 11) = 4 := S.l 4 rfl
theorem s_l13 (S : y_S n M) : z_ln M (n + 13) = 200 := S.l 5 rfl
theorem s_l14 (S : y_S n M) : z_ln M (n + 14) = 200 := S.l 6 rfl
theorem s_l15 (S : y_S n M) : z_ln M (n + 15) = 200 := S.l 7 rfl
theorem s_l17 (S : y_S n M) : z_ln M (n + 17) = 200 := S.l 8 rfl
theorem s_l18 (S : y_S n M) : z_ln M (n + 18) = 200 := S.l 9 rfl
theorem s_l19 (S : y_S n M) : z_ln M (n + 19) = 200 := S.l 10 rfl
theorem s_l21 (S : y_S n M) : z_ln M (n + 21) = 200 := S.l 11 rfl
theorem s_l22 (S : y_S n M) : z_ln M (n + 22) = 200 := S.l 12 rfl
theorem s_l23 (S : y_S n M) : z_ln M (n + 23) = 200 := S.l 13 rfl
theorem s_l25 (S : y_S n M) : z_ln M (n + 25) = 200 := S.l 14 rfl
theorem s_l26 (S : y_S n M) : z_ln M (n + 26) = 200 := S.l 15 rfl
theorem s_l27 (S : y_S n M) : z_ln M (n + 27) = 200 := S.l 16 rfl
theorem s_l29 (S : y_S n M) : z_ln M (n + 29) = 10 := S.l 17 rfl
theorem s_l30 (S : y_S n M) : z_ln M (n + 30) = 400 := S.l 18 rfl
theorem s_l34 (S : y_S n M) : z_ln M (n + 34) = 8 := S.l 19 rfl
theorem s_l37 (S : y_S n M) : z_ln M (n + 37) = 8 := S.l 20 rfl
theorem s_l38 (S : y_S n M) : z_ln M (n + 38) = 400 := S.l 21 rfl
theorem s_l39 (S : y_S n M) : z_ln M (n + 39) = 200 := S.l 22 rfl
theorem s_l41 (S : y_S n M) : z_ln M (n + 41) = 2 := S.l 23 rfl
theorem s_l42 (S : y_S n M) : z_ln M (n + 42) = 2 := S.l 24 rfl
theorem s_l43 (S : y_S n M) : z_ln M (n + 43) = 2 := S.l 25 rfl
theorem s_l44 (S : y_S n M) : z_ln M (n + 44) = 2 := S.l 26 rfl
theorem s_l45 (S : y_S n M) : z_ln M (n + 45) = 2 := S.l 27 rfl
theorem s_l46 (S : y_S n M) : z_ln M (n + 46) = 2 := S.l 28 rfl
theorem s_l47 (S : y_S n M) : z_ln M (n + 47) = 2 := S.l 29 rfl
theorem s_l48 (S : y_S n M) : z_ln M (n + 48) = 2 := S.l 30 rfl
theorem s_l49 (S : y_S n M) : z_ln M (n + 49) = 2 := S.l 31 rfl
theorem s_l50 (S : y_S n M) : z_ln M (n + 50) = 60 := S.l 32 rfl
theorem s_l51 (S : y_S n M) : z_ln M (n + 51) = 2 := S.l 33 rfl
theorem s_l52 (S : y_S n M) : z_ln M (n + 52) = 1300 := S.l 34 rfl
theorem s_l53 (S : y_S n M) : z_ln M (n + 53) = 1300 := S.l 35 rfl
theorem s_l54 (S : y_S n M) : z_ln M (n + 54) = 1300 := S.l 36 rfl
theorem s_l55 (S : y_S n M) : z_ln M (n + 55) = 1300 := S.l 37 rfl
theorem s_l56 (S : y_S n M) : z_ln M (n + 56) = 1300 := S.l 38 rfl
theorem s_l57 (S : y_S n M) : z_ln M (n + 57) = 3600 := S.l 39 rfl
theorem s_l58 (S : y_S n M) : z_ln M (n + 58) = 3600 := S.l 40 rfl
theorem s_l59 (S : y_S n M) : z_ln M (n + 59) = 3600 := S.l 41 rfl
theorem s_l60 (S : y_S n M) : z_ln M (n + 60) = 3600 := S.l 42 rfl
theorem s_l61 (S : y_S n M) : z_ln M (n + 61) = 54000 := S.l 43 rfl
theorem s_l62 (S : y_S n M) : z_ln M (n + 62) = 10 := S.l 44 rfl
theorem s_l63 (S : y_S n M) : z_ln M (n + 63) = 400 := S.l 45 rfl
theorem s_l64 (S : y_S n M) : z_ln M (n + 64) = 800 := S.l 46 rfl
theorem s_l65 (S : y_S n M) : z_ln M (n + 65) = 4 := S.l 47 rfl
theorem s_l66 (S : y_S n M) : z_ln M (n + 66) = 4 := S.l 48 rfl
theorem s_l67 (S : y_S n M) : z_ln M (n + 67) = 4 := S.l 49 rfl
theorem s_l68 (S : y_S n M) : z_ln M (n + 68) = 4 := S.l 50 rfl
theorem s_l69 (S : y_S n M) : z_ln M (n + 69) = 800 := S.l 51 rfl
theorem s_l70 (S : y_S n M) : z_ln M (n + 70) = 800 := S.l 52 rfl
theorem s_l71 (S : y_S n M) : z_ln M (n + 71) = 400 := S.l 53 rfl
theorem s_l72 (S : y_S n M) : z_ln M (n + 72) = 400 := S.l 54 rfl
theorem s_l73 (S : y_S n M) : z_ln M (n + 73) = 400 := S.l 55 rfl
theorem s_l74 (S : y_S n M) : z_ln M (n + 74) = 400 := S.l 56 rfl
theorem s_l75 (S : y_S n M) : z_ln M (n + 75) = 400 := S.l 57 rfl
theorem s_l76 (S : y_S n M) : z_ln M (n + 76) = 400 := S.l 58 rfl
theorem s_l77 (S : y_S n M) : z_ln M (n + 77) = 400 := S.l 59 rfl
theorem s_l78 (S : y_S n M) : z_ln M (n + 78) = 400 := S.l 60 rfl
theorem s_l79 (S : y_S n M) : z_ln M (n + 79) = 400 := S.l 61 rfl
theorem s_l80 (S : y_S n M) : z_ln M (n + 80) = 400 := S.l 62 rfl
theorem s_l81 (S : y_S n M) : z_ln M (n + 81) = 400 := S.l 63 rfl
theorem s_l82 (S : y_S n M) : z_ln M (n + 82) = 400 := S.l 64 rfl
theorem s_l83 (S : y_S n M) : z_ln M (n + 83) = 400 := S.l 65 rfl
theorem s_l84 (S : y_S n M) : z_ln M (n + 84) = 2 := S.l 66 rfl
theorem s_l85 (S : y_S n M) : z_ln M (n + 85) = 2 := S.l 67 rfl
theorem s_l86 (S : y_S n M) : z_ln M (n + 86) = 2 := S.l 68 rfl
theorem s_l87 (S : y_S n M) : z_ln M (n + 87) = 2 := S.l 69 rfl
theorem s_l88 (S : y_S n M) : z_ln M (n + 88) = 2 := S.l 70 rfl
theorem s_l89 (S : y_S n M) : z_ln M (n + 89) = 2 := S.l 71 rfl
theorem s_l90 (S : y_S n M) : z_ln M (n + 90) = 2 := S.l 72 rfl
theorem s_l91 (S : y_S n M) : z_ln M (n + 91) = 2 := S.l 73 rfl
theorem s_l92 (S : y_S n M) : z_ln M (n + 92) = 2 := S.l 74 rfl
theorem s_l93 (S : y_S n M) : z_ln M (n + 93) = 2 := S.l 75 rfl
theorem s_l94 (S : y_S n M) : z_ln M (n + 94) = 2 := S.l 76 rfl
theorem s_l95 (S : y_S n M) : z_ln M (n + 95) = 2 := S.l 77 rfl
theorem s_l96 (S : y_S n M) : z_ln M (n + 96) = 2 := S.l 78 rfl
theorem s_l97 (S : y_S n M) : z_ln M (n + 97) = 2 := S.l 79 rfl
theorem s_l98 (S : y_S n M) : z_ln M (n + 98) = 16 := S.l 80 rfl
theorem s_l99 (S : y_S n M) : z_ln M (n + 99) = 2 := S.l 81 rfl
theorem s_l100 (S : y_S n M) : z_ln M (n + 100) = 2 := S.l 82 rfl
theorem s_l101 (S : y_S n M) : z_ln M (n + 101) = 2 := S.l 83 rfl
theorem s_l102 (S : y_S n M) : z_ln M (n + 102) = 2 := S.l 84 rfl
theorem s_l103 (S : y_S n M) : z_ln M (n + 103) = 2 := S.l 85 rfl
theorem s_l104 (S : y_S n M) : z_ln M (n + 104) = 2 := S.l 86 rfl
theorem s_l105 (S : y_S n M) : z_ln M (n + 105) = 2 := S.l 87 rfl
theorem s_l106 (S : y_S n M) : z_ln M (n + 106) = 6 := S.l 88 rfl
theorem s_l107 (S : y_S n M) : z_ln M (n + 107) = 1 := S.l 89 rfl
theorem nn_128_31 {K : Nat → Prop} (S : y_S n M) : z_nn (z_fr M 128 (n + 31)) K = K (n + 1) := propext ⟨fun ⟨_, e, k⟩ => by rw [S.r 0 rfl] at e; cases e; exact k, fun k => ⟨_, S.r 0 rfl, k⟩⟩
theorem nn_129_31 {K : Nat → Prop} (S : y_S n M) : z_nn (z_fr M 129 (n + 31)) K = K (n + 11) := propext ⟨fun ⟨_, e, k⟩ => by rw [S.r 1 rfl] at e; cases e; exact k, fun k => ⟨_, S.r 1 rfl, k⟩⟩
theorem nn_130_31 {K : Nat → Prop} (S : y_S n M) : z_nn (z_fr M 130 (n + 31)) K = K (n + 32) := propext ⟨fun ⟨_, e, k⟩ => by rw [S.r 2 rfl] at e; cases e; exact k, fun k => ⟨_, S.r 2 rfl, k⟩⟩
theorem nn_131_31 {K : Nat → Prop} (S : y_S n M) : z_nn (z_fr M 131 (n + 31)) K = K (n + 35) := propext ⟨fun ⟨_, e, k⟩ => by rw [S.r 3 rfl] at e; cases e; exact k, fun k => ⟨_, S.r 3 rfl, k⟩⟩
theorem nn_132_31 {K : Nat → Prop} (S : y_S n M) : z_nn (z_fr M 132 (n + 31)) K = K (n + 38) := propext ⟨fun ⟨_, e, k⟩ => by rw [S.r 4 rfl] at e; cases e; exact k, fun k => ⟨_, S.r 4 rfl, k⟩⟩
theorem nn_265_33 {K : Nat → Prop} (S : y_S n M) : z_nn (z_fr M 265 (n + 33)) K = K (n + 34) := propext ⟨fun ⟨_, e, k⟩ => by rw [S.r 5 rfl] at e; cases e; exact k, fun k => ⟨_, S.r 5 rfl, k⟩⟩
theorem nn_265_36 {K : Nat → Prop} (S : y_S n M) : z_nn (z_fr M 265 (n + 36)) K = K (n + 37) := propext ⟨fun ⟨_, e, k⟩ => by rw [S.r 6 rfl] at e; cases e; exact k, fun k => ⟨_, S.r 6 rfl, k⟩⟩
theorem nn_393_2 {K : Nat → Prop} (S : y_S n M) : z_nn (z_fr M 393 (n + 2)) K = K (n + 3) := propext ⟨fun ⟨_, e, k⟩ => by rw [S.r 7 rfl] at e; cases e; exact k, fun k => ⟨_, S.r 7 rfl, k⟩⟩
theorem nn_393_4 {K : Nat → Prop} (S : y_S n M) : z_nn (z_fr M 393 (n + 4)) K = K (n + 5) := propext ⟨fun ⟨_, e, k⟩ => by rw [S.r 8 rfl] at e; cases e; exact k, fun k => ⟨_, S.r 8 rfl, k⟩⟩
theorem nn_640_1 {K : Nat → Prop} (S : y_S n M) : z_nn (z_fr M 640 (n + 1)) K = K (n + 2) := propext ⟨fun ⟨_, e, k⟩ => by rw [S.r 9 rfl] at e; cases e; exact k, fun k => ⟨_, S.r 9 rfl, k⟩⟩
theorem nn_641_1 {K : Nat → Prop} (S : y_S n M) : z_nn (z_fr M 641 (n + 1)) K = K (n + 4) := propext ⟨fun ⟨_, e, k⟩ => by rw [S.r 10 rfl] at e; cases e; exact k, fun k => ⟨_, S.r 10 rfl, k⟩⟩
theorem nn_642_1 {K : Nat → Prop} (S : y_S n M) : z_nn (z_fr M 642 (n + 1)) K = K (n + 6) := propext ⟨fun ⟨_, e, k⟩ => by rw [S.r 11 rfl] at e; cases e; exact k, fun k => ⟨_, S.r 11 rfl, k⟩⟩
theorem nn_643_1 {K : Nat → Prop} (S : y_S n M) : z_nn (z_fr M 643 (n + 1)) K = K (n + 8) := propext ⟨fun ⟨_, e, k⟩ => by rw [S.r 12 rfl] at e; cases e; exact k, fun k => ⟨_, S.r 12 rfl, k⟩⟩
theorem nn_644_1 {K : Nat → Prop} (S : y_S n M) : z_nn (z_fr M 644 (n + 1)) K = K (n + 10) := propext ⟨fun ⟨_, e, k⟩ => by rw [S.r 13 rfl] at e; cases e; exact k, fun k => ⟨_, S.r 13 rfl, k⟩⟩
theorem nn_897_32 {K : Nat → Prop} (S : y_S n M) : z_nn (z_fr M 897 (n + 32)) K = K (n + 33) := propext ⟨fun ⟨_, e, k⟩ => by rw [S.r 14 rfl] at e; cases e; exact k, fun k => ⟨_, S.r 14 rfl, k⟩⟩
theorem nn_897_35 {K : Nat → Prop} (S : y_S n M) : z_nn (z_fr M 897 (n + 35)) K = K (n + 36) := propext ⟨fun ⟨_, e, k⟩ => by rw [S.r 15 rfl] at e; cases e; exact k, fun k => ⟨_, S.r 15 rfl, k⟩⟩
theorem nn_1024_28 {K : Nat → Prop} (S : y_S n M) : z_nn (z_fr M 1024 (n + 28)) K = K (n + 1) := propext ⟨fun ⟨_, e, k⟩ => by rw [S.r 16 rfl] at e; cases e; exact k, fun k => ⟨_, S.r 16 rfl, k⟩⟩
theorem nn_1025_28 {K : Nat → Prop} (S : y_S n M) : z_nn (z_fr M 1025 (n + 28)) K = K (n + 11) := propext ⟨fun ⟨_, e, k⟩ => by rw [S.r 17 rfl] at e; cases e; exact k, fun k => ⟨_, S.r 17 rfl, k⟩⟩
theorem nn_1029_28 {K : Nat → Prop} (S : y_S n M) : z_nn (z_fr M 1029 (n + 28)) K = K (n + 29) := propext ⟨fun ⟨_, e, k⟩ => by rw [S.r 18 rfl] at e; cases e; exact k, fun k => ⟨_, S.r 18 rfl, k⟩⟩
theorem nn_1033_28 {K : Nat → Prop} (S : y_S n M) : z_nn (z_fr M 1033 (n + 28)) K = K (n + 30) := propext ⟨fun ⟨_, e, k⟩ => by rw [S.r 19 rfl] at e; cases e; exact k, fun k => ⟨_, S.r 19 rfl, k⟩⟩
theorem nn_1159_12 {K : Nat → Prop} (S : y_S n M) : z_nn (z_fr M 1159 (n + 12)) K = K (n + 13) := propext ⟨fun ⟨_, e, k⟩ => by rw [S.r 20 rfl] at e; cases e; exact k, fun k => ⟨_, S.r 20 rfl, k⟩⟩
theorem nn_1159_16 {K : Nat → Prop} (S : y_S n M) : z_nn (z_fr M 1159 (n + 16)) K = K (n + 17) := propext ⟨fun ⟨_, e, k⟩ => by rw [S.r 21 rfl] at e; cases e; exact k, fun k => ⟨_, S.r 21 rfl, k⟩⟩
theorem nn_1159_20 {K : Nat → Prop} (S : y_S n M) : z_nn (z_fr M 1159 (n + 20)) K = K (n + 21) := propext ⟨fun ⟨_, e, k⟩ => by rw [S.r 22 rfl] at e; cases e; exact k, fun k => ⟨_, S.r 22 rfl, k⟩⟩
theorem nn_1159_24 {K : Nat → Prop} (S : y_S n M) : z_nn (z_fr M 1159 (n + 24)) K = K (n + 25) := propext ⟨fun ⟨_, e, k⟩ => by rw [S.r 23 rfl] at e; cases e; exact k, fun k => ⟨_, S.r 23 rfl, k⟩⟩
theorem nn_1160_12 {K : Nat → Prop} (S : y_S n M) : z_nn (z_fr M 1160 (n + 12)) K = K (n + 14) := propext ⟨fun ⟨_, e, k⟩ => by rw [S.r 24 rfl] at e; cases e; exact k, fun k => ⟨_, S.r 24 rfl, k⟩⟩
theorem nn_1160_16 {K : Nat → Prop} (S : y_S n M) : z_nn (z_fr M 1160 (n + 16)) K = K (n + 18) := propext ⟨fun ⟨_, e, k⟩ => by rw [S.r 25 rfl] at e; cases e; exact k, fun k => ⟨_, S.r 25 rfl, k⟩⟩
theorem nn_1160_20 {K : Nat → Prop} (S : y_S n M) : z_nn (z_fr M 1160 (n + 20)) K = K (n + 22) := propext ⟨fun ⟨_, e, k⟩ => by rw [S.r 26 rfl] at e; cases e; exact k, fun k => ⟨_, S.r 26 rfl, k⟩⟩
theorem nn_1160_24 {K : Nat → Prop} (S : y_S n M) : z_nn (z_fr M 1160 (n + 24)) K = K (n + 26) := propext ⟨fun ⟨_, e, k⟩ => by rw [S.r 27 rfl] at e; cases e; exact k, fun k => ⟨_, S.r 27 rfl, k⟩⟩
theorem nn_1161_12 {K : Nat → Prop} (S : y_S n M) : z_nn (z_fr M 1161 (n + 12)) K = K (n + 15) := propext ⟨fun ⟨_, e, k⟩ => by rw [S.r 28 rfl] at e; cases e; exact k, fun k => ⟨_, S.r 28 rfl, k⟩⟩
theorem nn_1161_16 {K : Nat → Prop} (S : y_S n M) : z_nn (z_fr M 1161 (n + 16)) K = K (n + 19) := propext ⟨fun ⟨_, e, k⟩ => by rw [S.r 29 rfl] at e; cases e; exact k, fun k => ⟨_, S.r 29 rfl, k⟩⟩
theorem nn_1161_20 {K : Nat → Prop} (S : y_S n M) : z_nn (z_fr M 1161 (n + 20)) K = K (n + 23) := propext ⟨fun ⟨_, e, k⟩ => by rw [S.r 30 rfl] at e; cases e; exact k, fun k => ⟨_, S.r 30 rfl, k⟩⟩
theorem nn_1161_24 {K : Nat → Prop} (S : y_S n M) : z_nn (z_fr M 1161 (n + 24)) K = K (n + 27) := propext ⟨fun ⟨_, e, k⟩ => by rw [S.r 31 rfl] at e; cases e; exact k, fun k => ⟨_, S.r 31 rfl, k⟩⟩
theorem nn_1280_6 {K : Nat → Prop} (S : y_S n M) : z_nn (z_fr M 1280 (n + 6)) K = K (n + 7) := propext ⟨fun ⟨_, e, k⟩ => by rw [S.r 32 rfl] at e; cases e; exact k, fun k => ⟨_, S.r 32 rfl, k⟩⟩
theorem nn_1280_8 {K : Nat → Prop} (S : y_S n M) : z_nn (z_fr M 1280 (n + 8)) K = K (n + 9) := propext ⟨fun ⟨_, e, k⟩ => by rw [S.r 33 rfl] at e; cases e; exact k, fun k => ⟨_, S.r 33 rfl, k⟩⟩
theorem nn_1408_0 {K : Nat → Prop} (S : y_S n M) : z_nn (z_fr M 1408 (n + 0)) K = K (n + 1) := propext ⟨fun ⟨_, e, k⟩ => by rw [S.r 34 rfl] at e; cases e; exact k, fun k => ⟨_, S.r 34 rfl, k⟩⟩
theorem nn_1409_0 {K : Nat → Prop} (S : y_S n M) : z_nn (z_fr M 1409 (n + 0)) K = K (n + 11) := propext ⟨fun ⟨_, e, k⟩ => by rw [S.r 35 rfl] at e; cases e; exact k, fun k => ⟨_, S.r 35 rfl, k⟩⟩
theorem nn_1410_0 {K : Nat → Prop} (S : y_S n M) : z_nn (z_fr M 1410 (n + 0)) K = K (n + 28) := propext ⟨fun ⟨_, e, k⟩ => by rw [S.r 36 rfl] at e; cases e; exact k, fun k => ⟨_, S.r 36 rfl, k⟩⟩
theorem nn_1411_0 {K : Nat → Prop} (S : y_S n M) : z_nn (z_fr M 1411 (n + 0)) K = K (n + 31) := propext ⟨fun ⟨_, e, k⟩ => by rw [S.r 37 rfl] at e; cases e; exact k, fun k => ⟨_, S.r 37 rfl, k⟩⟩
theorem nn_1412_0 {K : Nat → Prop} (S : y_S n M) : z_nn (z_fr M 1412 (n + 0)) K = K (n + 39) := propext ⟨fun ⟨_, e, k⟩ => by rw [S.r 38 rfl] at e; cases e; exact k, fun k => ⟨_, S.r 38 rfl, k⟩⟩
theorem nn_1537_40 {K : Nat → Prop} (S : y_S n M) : z_nn (z_fr M 1537 (n + 40)) K = K (n + 41) := propext ⟨fun ⟨_, e, k⟩ => by rw [S.r 39 rfl] at e; cases e; exact k, fun k => ⟨_, S.r 39 rfl, k⟩⟩
theorem nn_1538_40 {K : Nat → Prop} (S : y_S n M) : z_nn (z_fr M 1538 (n + 40)) K = K (n + 42) := propext ⟨fun ⟨_, e, k⟩ => by rw [S.r 40 rfl] at e; cases e; exact k, fun k => ⟨_, S.r 40 rfl, k⟩⟩
theorem nn_1539_40 {K : Nat → Prop} (S : y_S n M) : z_nn (z_fr M 1539 (n + 40)) K = K (n + 43) := propext ⟨fun ⟨_, e, k⟩ => by rw [S.r 41 rfl] at e; cases e; exact k, fun k => ⟨_, S.r 41 rfl, k⟩⟩
theorem nn_1540_40 {K : Nat → Prop} (S : y_S n M) : z_nn (z_fr M 1540 (n + 40)) K = K (n + 44) := propext ⟨fun ⟨_, e, k⟩ => by rw [S.r 42 rfl] at e; cases e; exact k, fun k => ⟨_, S.r 42 rfl, k⟩⟩
theorem nn_1541_40 {K : Nat → Prop} (S : y_S n M) : z_nn (z_fr M 1541 (n + 40)) K = K (n + 45) := propext ⟨fun ⟨_, e, k⟩ => by rw [S.r 43 rfl] at e; cases e; exact k, fun k => ⟨_, S.r 43 rfl, k⟩⟩
theorem nn_1542_40 {K : Nat → Prop} (S : y_S n M) : z_nn (z_fr M 1542 (n + 40)) K = K (n + 46) := propext ⟨fun ⟨_, e, k⟩ => by rw [S.r 44 rfl] at e; cases e; exact k, fun k => ⟨_, S.r 44 rfl, k⟩⟩
theorem nn_1543_40 {K : Nat → Prop} (S : y_S n M) : z_nn (z_fr M 1543 (n + 40)) K = K (n + 47) := propext ⟨fun ⟨_, e, k⟩ => by rw [S.r 45 rfl] at e; cases e; exact k, fun k => ⟨_, S.r 45 rfl, k⟩⟩
theorem nn_1544_40 {K : Nat → Prop} (S : y_S n M) : z_nn (z_fr M 1544 (n + 40)) K = K (n + 48) := propext ⟨fun ⟨_, e, k⟩ => by rw [S.r 46 rfl] at e; cases e; exact k, fun k => ⟨_, S.r 46 rfl, k⟩⟩
theorem nn_1545_40 {K : Nat → Prop} (S : y_S n M) : z_nn (z_fr M 1545 (n + 40)) K = K (n + 49) := propext ⟨fun ⟨_, e, k⟩ => by rw [S.r 47 rfl] at e; cases e; exact k, fun k => ⟨_, S.r 47 rfl, k⟩⟩
theorem nn_1546_40 {K : Nat → Prop} (S : y_S n M) : z_nn (z_fr M 1546 (n + 40)) K = K (n + 50) := propext ⟨fun ⟨_, e, k⟩ => by rw [S.r 48 rfl] at e; cases e; exact k, fun k => ⟨_, S.r 48 rfl, k⟩⟩
theorem nn_1547_40 {K : Nat → Prop} (S : y_S n M) : z_nn (z_fr M 1547 (n + 40)) K = K (n + 51) := propext ⟨fun ⟨_, e, k⟩ => by rw [S.r 49 rfl] at e; cases e; exact k, fun k => ⟨_, S.r 49 rfl, k⟩⟩
theorem nn_1548_40 {K : Nat → Prop} (S : y_S n M) : z_nn (z_fr M 1548 (n + 40)) K = K (n + 52) := propext ⟨fun ⟨_, e, k⟩ => by rw [S.r 50 rfl] at e; cases e; exact k, fun k => ⟨_, S.r 50 rfl, k⟩⟩
theorem nn_1549_40 {K : Nat → Prop} (S : y_S n M) : z_nn (z_fr M 1549 (n + 40)) K = K (n + 53) := propext ⟨fun ⟨_, e, k⟩ => by rw [S.r 51 rfl] at e; cases e; exact k, fun k => ⟨_, S.r 51 rfl, k⟩⟩
theorem nn_1550_40 {K : Nat → Prop} (S : y_S n M) : z_nn (z_fr M 1550 (n + 40)) K = K (n + 54) := propext ⟨fun ⟨_, e, k⟩ => by rw [S.r 52 rfl] at e; cases e; exact k, fun k => ⟨_, S.r 52 rfl, k⟩⟩
theorem nn_1552_40 {K : Nat → Prop} (S : y_S n M) : z_nn (z_fr M 1552 (n + 40)) K = K (n + 55) := propext ⟨fun ⟨_, e, k⟩ => by rw [S.r 53 rfl] at e; cases e; exact k, fun k => ⟨_, S.r 53 rfl, k⟩⟩
theorem nn_1553_40 {K : Nat → Prop} (S : y_S n M) : z_nn (z_fr M 1553 (n + 40)) K = K (n + 56) := propext ⟨fun ⟨_, e, k⟩ => by rw [S.r 54 rfl] at e; cases e; exact k, fun k => ⟨_, S.r 54 rfl, k⟩⟩
theorem nn_1555_40 {K : Nat → Prop} (S : y_S n M) : z_nn (z_fr M 1555 (n + 40)) K = K (n + 57) := propext ⟨fun ⟨_, e, k⟩ => by rw [S.r 55 rfl] at e; cases e; exact k, fun k => ⟨_, S.r 55 rfl, k⟩⟩
theorem nn_1556_40 {K : Nat → Prop} (S : y_S n M) : z_nn (z_fr M 1556 (n + 40)) K = K (n + 58) := propext ⟨fun ⟨_, e, k⟩ => by rw [S.r 56 rfl] at e; cases e; exact k, fun k => ⟨_, S.r 56 rfl, k⟩⟩
theorem nn_1557_40 {K : Nat → Prop} (S : y_S n M) : z_nn (z_fr M 1557 (n + 40)) K = K (n + 59) := propext ⟨fun ⟨_, e, k⟩ => by rw [S.r 57 rfl] at e; cases e; exact k, fun k => ⟨_, S.r 57 rfl, k⟩⟩
theorem nn_1558_40 {K : Nat → Prop} (S : y_S n M) : z_nn (z_fr M 1558 (n + 40)) K = K (n + 60) := propext ⟨fun ⟨_, e, k⟩ => by rw [S.r 58 rfl] at e; cases e; exact k, fun k => ⟨_, S.r 58 rfl, k⟩⟩
theorem nn_1560_40 {K : Nat → Prop} (S : y_S n M) : z_nn (z_fr M 1560 (n + 40)) K = K (n + 61) := propext ⟨fun ⟨_, e, k⟩ => by rw [S.r 59 rfl] at e; cases e; exact k, fun k => ⟨_, S.r 59 rfl, k⟩⟩
theorem nn_1565_40 {K : Nat → Prop} (S : y_S n M) : z_nn (z_fr M 1565 (n + 40)) K = K (n + 62) := propext ⟨fun ⟨_, e, k⟩ => by rw [S.r 60 rfl] at e; cases e; exact k, fun k => ⟨_, S.r 60 rfl, k⟩⟩
theorem nn_1569_40 {K : Nat → Prop} (S : y_S n M) : z_nn (z_fr M 1569 (n + 40)) K = K (n + 63) := propext ⟨fun ⟨_, e, k⟩ => by rw [S.r 61 rfl] at e; cases e; exact k, fun k => ⟨_, S.r 61 rfl, k⟩⟩
theorem nn_1570_40 {K : Nat → Prop} (S : y_S n M) : z_nn (z_fr M 1570 (n + 40)) K = K (n + 64) := propext ⟨fun ⟨_, e, k⟩ => by rw [S.r 62 rfl] at e; cases e; exact k, fun k => ⟨_, S.r 62 rfl, k⟩⟩
theorem nn_1571_40 {K : Nat → Prop} (S : y_S n M) : z_nn (z_fr M 1571 (n + 40)) K = K (n + 65) := propext ⟨fun ⟨_, e, k⟩ => by rw [S.r 63 rfl] at e; cases e; exact k, fun k => ⟨_, S.r 63 rfl, k⟩⟩
theorem nn_1586_40 {K : Nat → Prop} (S : y_S n M) : z_nn (z_fr M 1586 (n + 40)) K = K (n + 66) := propext ⟨fun ⟨_, e, k⟩ => by rw [S.r 64 rfl] at e; cases e; exact k, fun k => ⟨_, S.r 64 rfl, k⟩⟩
theorem nn_1587_40 {K : Nat → Prop} (S : y_S n M) : z_nn (z_fr M 1587 (n + 40)) K = K (n + 67) := propext ⟨fun ⟨_, e, k⟩ => by rw [S.r 65 rfl] at e; cases e; exact k, fun k => ⟨_, S.r 65 rfl, k⟩⟩
theorem nn_1588_40 {K : Nat → Prop} (S : y_S n M) : z_nn (z_fr M 1588 (n + 40)) K = K (n + 68) := propext ⟨fun ⟨_, e, k⟩ => by rw [S.r 66 rfl] at e; cases e; exact k, fun k => ⟨_, S.r 66 rfl, k⟩⟩
theorem nn_1591_40 {K : Nat → Prop} (S : y_S n M) : z_nn (z_fr M 1591 (n + 40)) K = K (n + 69) := propext ⟨fun ⟨_, e, k⟩ => by rw [S.r 67 rfl] at e; cases e; exact k, fun k => ⟨_, S.r 67 rfl, k⟩⟩
theorem nn_1592_40 {K : Nat → Prop} (S : y_S n M) : z_nn (z_fr M 1592 (n + 40)) K = K (n + 70) := propext ⟨fun ⟨_, e, k⟩ => by rw [S.r 68 rfl] at e; cases e; exact k, fun k => ⟨_, S.r 68 rfl, k⟩⟩
theorem nn_1593_40 {K : Nat → Prop} (S : y_S n M) : z_nn (z_fr M 1593 (n + 40)) K = K (n + 71) := propext ⟨fun ⟨_, e, k⟩ => by rw [S.r 69 rfl] at e; cases e; exact k, fun k => ⟨_, S.r 69 rfl, k⟩⟩
theorem nn_1594_40 {K : Nat → Prop} (S : y_S n M) : z_nn (z_fr M 1594 (n + 40)) K = K (n + 72) := propext ⟨fun ⟨_, e, k⟩ => by rw [S.r 70 rfl] at e; cases e; exact k, fun k => ⟨_, S.r 70 rfl, k⟩⟩
theorem nn_1595_40 {K : Nat → Prop} (S : y_S n M) : z_nn (z_fr M 1595 (n + 40)) K = K (n + 73) := propext ⟨fun ⟨_, e, k⟩ => by rw [S.r 71 rfl] at e; cases e; exact k, fun k => ⟨_, S.r 71 rfl, k⟩⟩
theorem nn_1596_40 {K : Nat → Prop} (S : y_S n M) : z_nn (z_fr M 1596 (n + 40)) K = K (n + 74) := propext ⟨fun ⟨_, e, k⟩ => by rw [S.r 72 rfl] at e; cases e; exact k, fun k => ⟨_, S.r 72 rfl, k⟩⟩
theorem nn_1597_40 {K : Nat → Prop} (S : y_S n M) : z_nn (z_fr M 1597 (n + 40)) K = K (n + 75) := propext ⟨fun ⟨_, e, k⟩ => by rw [S.r 73 rfl] at e; cases e; exact k, fun k => ⟨_, S.r 73 rfl, k⟩⟩
theorem nn_1598_40 {K : Nat → Prop} (S : y_S n M) : z_nn (z_fr M 1598 (n + 40)) K = K (n + 76) := propext ⟨fun ⟨_, e, k⟩ => by rw [S.r 74 rfl] at e; cases e; exact k, fun k => ⟨_, S.r 74 rfl, k⟩⟩
theorem nn_1599_40 {K : Nat → Prop} (S : y_S n M) : z_nn (z_fr M 1599 (n + 40)) K = K (n + 77) := propext ⟨fun ⟨_, e, k⟩ => by rw [S.r 75 rfl] at e; cases e; exact k, fun k => ⟨_, S.r 75 rfl, k⟩⟩
theorem nn_1600_40 {K : Nat → Prop} (S : y_S n M) : z_nn (z_fr M 1600 (n + 40)) K = K (n + 78) := propext ⟨fun ⟨_, e, k⟩ => by rw [S.r 76 rfl] at e; cases e; exact k, fun k => ⟨_, S.r 76 rfl, k⟩⟩
theorem nn_1601_40 {K : Nat → Prop} (S : y_S n M) : z_nn (z_fr M 1601 (n + 40)) K = K (n + 79) := propext ⟨fun ⟨_, e, k⟩ => by rw [S.r 77 rfl] at e; cases e; exact k, fun k => ⟨_, S.r 77 rfl, k⟩⟩
theorem nn_1602_40 {K : Nat → Prop} (S : y_S n M) : z_nn (z_fr M 1602 (n + 40)) K = K (n + 80) := propext ⟨fun ⟨_, e, k⟩ => by rw [S.r 78 rfl] at e; cases e; exact k, fun k => ⟨_, S.r 78 rfl, k⟩⟩
theorem nn_1603_40 {K : Nat → Prop} (S : y_S n M) : z_nn (z_fr M 1603 (n + 40)) K = K (n + 81) := propext ⟨fun ⟨_, e, k⟩ => by rw [S.r 79 rfl] at e; cases e; exact k, fun k => ⟨_, S.r 79 rfl, k⟩⟩
theorem nn_1604_40 {K : Nat → Prop} (S : y_S n M) : z_nn (z_fr M 1604 (n + 40)) K = K (n + 82) := propext ⟨fun ⟨_, e, k⟩ => by rw [S.r 80 rfl] at e; cases e; exact k, fun k => ⟨_, S.r 80 rfl, k⟩⟩
theorem nn_1605_40 {K : Nat → Prop} (S : y_S n M) : z_nn (z_fr M 1605 (n + 40)) K = K (n + 83) := propext ⟨fun ⟨_, e, k⟩ => by rw [S.r 81 rfl] at e; cases e; exact k, fun k => ⟨_, S.r 81 rfl, k⟩⟩
theorem nn_1607_40 {K : Nat → Prop} (S : y_S n M) : z_nn (z_fr M 1607 (n + 40)) K = K (n + 84) := propext ⟨fun ⟨_, e, k⟩ => by rw [S.r 82 rfl] at e; cases e; exact k, fun k => ⟨_, S.r 82 rfl, k⟩⟩
theorem nn_1608_40 {K : Nat → Prop} (S : y_S n M) : z_nn (z_fr M 1608 (n + 40)) K = K (n + 85) := propext ⟨fun ⟨_, e, k⟩ => by rw [S.r 83 rfl] at e; cases e; exact k, fun k => ⟨_, S.r 83 rfl, k⟩⟩
theorem nn_1609_40 {K : Nat → Prop} (S : y_S n M) : z_nn (z_fr M 1609 (n + 40)) K = K (n + 86) := propext ⟨fun ⟨_, e, k⟩ => by rw [S.r 84 rfl] at e; cases e; exact k, fun k => ⟨_, S.r 84 rfl, k⟩⟩
theorem nn_1610_40 {K : Nat → Prop} (S : y_S n M) : z_nn (z_fr M 1610 (n + 40)) K = K (n + 87) := propext ⟨fun ⟨_, e, k⟩ => by rw [S.r 85 rfl] at e; cases e; exact k, fun k => ⟨_, S.r 85 rfl, k⟩⟩
theorem nn_1611_40 {K : Nat → Prop} (S : y_S n M) : z_nn (z_fr M 1611 (n + 40)) K = K (n + 88) := propext ⟨fun ⟨_, e, k⟩ => by rw [S.r 86 rfl] at e; cases e; exact k, fun k => ⟨_, S.r 86 rfl, k⟩⟩
theorem nn_1612_40 {K : Nat → Prop} (S : y_S n M) : z_nn (z_fr M 1612 (n + 40)) K = K (n + 89) := propext ⟨fun ⟨_, e, k⟩ => by rw [S.r 87 rfl] at e; cases e; exact k, fun k => ⟨_, S.r 87 rfl, k⟩⟩
theorem nn_1613_40 {K : Nat → Prop} (S : y_S n M) : z_nn (z_fr M 1613 (n + 40)) K = K (n + 90) := propext ⟨fun ⟨_, e, k⟩ => by rw [S.r 88 rfl] at e; cases e; exact k, fun k => ⟨_, S.r 88 rfl, k⟩⟩
theorem nn_1614_40 {K : Nat → Prop} (S : y_S n M) : z_nn (z_fr M 1614 (n + 40)) K = K (n + 91) := propext ⟨fun ⟨_, e, k⟩ => by rw [S.r 89 rfl] at e; cases e; exact k, fun k => ⟨_, S.r 89 rfl, k⟩⟩
theorem nn_1615_40 {K : Nat → Prop} (S : y_S n M) : z_nn (z_fr M 1615 (n + 40)) K = K (n + 92) := propext ⟨fun ⟨_, e, k⟩ => by rw [S.r 90 rfl] at e; cases e; exact k, fun k => ⟨_, S.r 90 rfl, k⟩⟩
theorem nn_1616_40 {K : Nat → Prop} (S : y_S n M) : z_nn (z_fr M 1616 (n + 40)) K = K (n + 93) := propext ⟨fun ⟨_, e, k⟩ => by rw [S.r 91 rfl] at e; cases e; exact k, fun k => ⟨_, S.r 91 rfl, k⟩⟩
theorem nn_1617_40 {K : Nat → Prop} (S : y_S n M) : z_nn (z_fr M 1617 (n + 40)) K = K (n + 94) := propext ⟨fun ⟨_, e, k⟩ => by rw [S.r 92 rfl] at e; cases e; exact k, fun k => ⟨_, S.r 92 rfl, k⟩⟩
theorem nn_1618_40 {K : Nat → Prop} (S : y_S n M) : z_nn (z_fr M 1618 (n + 40)) K = K (n + 95) := propext ⟨fun ⟨_, e, k⟩ => by rw [S.r 93 rfl] at e; cases e; exact k, fun k => ⟨_, S.r 93 rfl, k⟩⟩
theorem nn_1619_40 {K : Nat → Prop} (S : y_S n M) : z_nn (z_fr M 1619 (n + 40)) K = K (n + 96) := propext ⟨fun ⟨_, e, k⟩ => by rw [S.r 94 rfl] at e; cases e; exact k, fun k => ⟨_, S.r 94 rfl, k⟩⟩
theorem nn_1620_40 {K : Nat → Prop} (S : y_S n M) : z_nn (z_fr M 1620 (n + 40)) K = K (n + 97) := propext ⟨fun ⟨_, e, k⟩ => by rw [S.r 95 rfl] at e; cases e; exact k, fun k => ⟨_, S.r 95 rfl, k⟩⟩
theorem nn_1621_40 {K : Nat → Prop} (S : y_S n M) : z_nn (z_fr M 1621 (n + 40)) K = K (n + 98) := propext ⟨fun ⟨_, e, k⟩ => by rw [S.r 96 rfl] at e; cases e; exact k, fun k => ⟨_, S.r 96 rfl, k⟩⟩
theorem nn_1622_40 {K : Nat → Prop} (S : y_S n M) : z_nn (z_fr M 1622 (n + 40)) K = K (n + 99) := propext ⟨fun ⟨_, e, k⟩ => by rw [S.r 97 rfl] at e; cases e; exact k, fun k => ⟨_, S.r 97 rfl, k⟩⟩
theorem nn_1623_40 {K : Nat → Prop} (S : y_S n M) : z_nn (z_fr M 1623 (n + 40)) K = K (n + 100) := propext ⟨fun ⟨_, e, k⟩ => by rw [S.r 98 rfl] at e; cases e; exact k, fun k => ⟨_, S.r 98 rfl, k⟩⟩
theorem nn_1624_40 {K : Nat → Prop} (S : y_S n M) : z_nn (z_fr M 1624 (n + 40)) K = K (n + 101) := propext ⟨fun ⟨_, e, k⟩ => by rw [S.r 99 rfl] at e; cases e; exact k, fun k => ⟨_, S.r 99 rfl, k⟩⟩
theorem nn_1625_40 {K : Nat → Prop} (S : y_S n M) : z_nn (z_fr M 1625 (n + 40)) K = K (n + 102) := propext ⟨fun ⟨_, e, k⟩ => by rw [S.r 100 rfl] at e; cases e; exact k, fun k => ⟨_, S.r 100 rfl, k⟩⟩
theorem nn_1626_40 {K : Nat → Prop} (S : y_S n M) : z_nn (z_fr M 1626 (n + 40)) K = K (n + 103) := propext ⟨fun ⟨_, e, k⟩ => by rw [S.r 101 rfl] at e; cases e; exact k, fun k => ⟨_, S.r 101 rfl, k⟩⟩
theorem nn_1627_40 {K : Nat → Prop} (S : y_S n M) : z_nn (z_fr M 1627 (n + 40)) K = K (n + 104) := propext ⟨fun ⟨_, e, k⟩ => by rw [S.r 102 rfl] at e; cases e; exact k, fun k => ⟨_, S.r 102 rfl, k⟩⟩
theorem nn_1628_40 {K : Nat → Prop} (S : y_S n M) : z_nn (z_fr M 1628 (n + 40)) K = K (n + 105) := propext ⟨fun ⟨_, e, k⟩ => by rw [S.r 103 rfl] at e; cases e; exact k, fun k => ⟨_, S.r 103 rfl, k⟩⟩
theorem nn_1629_40 {K : Nat → Prop} (S : y_S n M) : z_nn (z_fr M 1629 (n + 40)) K = K (n + 106) := propext ⟨fun ⟨_, e, k⟩ => by rw [S.r 104 rfl] at e; cases e; exact k, fun k => ⟨_, S.r 104 rfl, k⟩⟩
theorem qr_sfi {g a w : Nat} {v : Int32} : z_room (z_sfi M g a v) w = z_room M w := rfl
theorem q_sfi {g a : Nat} {v : Int32} : y_S n (z_sfi M g a v) = y_S n M := rfl
theorem q_sai {a j : Nat} {v : Int32} : y_S n (z_sai M a j v) = y_S n M := rfl
theorem q_sal {a j : Nat} {v : Int64} : y_S n (z_sal M a j v) = y_S n M := rfl
theorem s_str {j : Nat} (S : y_S n M) (h : j < 4) : z_ar M (n + 11) j = some (n + (12 + 4 * j)) := S.2.2.1 j h
end YS
set_option maxRecDepth 100000 in
theorem y_Sc : y_T.all (fun t => decide (z_fr y_m58 t.1 t.2.1 = some t.2.2)) = true ∧ y_TL.all (fun t => decide (z_ln y_m58 t.1 = t.2)) = true ∧ (List.range 4).all (fun j => decide (z_ar y_m58 11 j = some (12 + 4 * j))) = true := by decide +kernel
theorem y_S0 {n r1 k1 r2 k2 : Nat} {M : z_Mem} (h : y_B n M y_m58 r1 k1 r2 k2 108) : y_S n M := by
  obtain ⟨h1, -, -, hz⟩ := h
  refine ⟨fun t ht => y_sh_fr h1 (of_decide_eq_true (List.all_eq_true.mp y_Sc.1 t ht)), fun t ht => ?_, fun j hj => ?_, ?_⟩
  · rw [h1.2.1]; exact of_decide_eq_true (List.all_eq_true.mp y_Sc.2.1 t ht)
  · rw [h1.2.2.2.2.2.1, of_decide_eq_true (List.all_eq_true.mp y_Sc.2.2 j (List.mem_range.mpr hj))]; rfl
  · rw [y_sh_sz h1, hz]; exact Nat.le_refl _
