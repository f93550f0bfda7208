/-! ===== FROM THE LAW'S ENTRY TO ITS LOOP: the closed memory y_C ===== -/
theorem y_in {i : Int32} {n : Nat} (h : (!(decide (i < 0)) && decide (i.toNatClampNeg < n)) = true) : vp_in i n := by
  rw [Bool.and_eq_true, Bool.not_eq_true', decide_eq_false_iff_not, decide_eq_true_eq] at h
  exact fun q => q.elim h.1 (fun q => Nat.not_le.mpr h.2 q)
set_option maxRecDepth 100000 in
def c_X12_init (a s : Nat) (C : z_Mem) : z_Mem := (z_sfr (z_nwa (z_sfr (z_nwa (z_sfr (z_nwa (z_sfr (z_nwa (z_sfr (z_nwa (z_sfr (z_nwa (z_sfr (z_nwa (z_sfr (z_nwa (z_sfr (z_nwa (z_sfr (z_nwa (z_sfr (z_nwa (z_sfr (z_nwa (z_sfr (z_nwa (z_sfr (z_nwa (z_sfr (z_nwa (z_sfr (z_nwa (z_sfr (z_nwa (z_sfr (z_nwa (z_sfr (z_nwa (z_sfr (z_nwa (z_sfr (z_nwa (z_sfr (z_nwa (z_sfr (z_nwa (z_sfr (z_nwa (z_sfr (z_nwa (z_sfr (z_nwa (z_sfr (z_nwa (z_sfr (z_nwa (z_sfr (z_nwa (z_sfr (z_nwa (z_sfr (z_nwa (z_sfr (z_nwa (z_sfr (z_nwa (z_sfr (z_nwa (z_sfr (z_nwa (z_sfr (z_nwa (z_sfr (z_nwa (z_sfr (z_nwa (z_sfi (z_sfi (z_sfr (z_nwa (z_sfr (z_nwa (z_sfr (z_nwa (z_sfi (z_sfi (z_sfi (z_sfi (z_sfr (z_nwa (z_sfr (z_nwa (z_sfr (z_nwa (z_sfi (z_sfr (z_nwa (z_sfr (z_nwa (z_sfr (z_nwa (z_sfr (z_nwa (z_sfr (z_nwa (z_sfr (z_nwa (z_sfr (z_nwa (z_sfr (z_nwa (z_sfr (z_nwa (z_sfr (z_nwa (z_sfr (z_nwa (z_sfr (z_nwa (z_sfr (z_nwa (z_sfr (z_nwa (z_sfr (z_nwa (z_sfr (z_nwa (z_sfr (z_nwa (z_sfr (z_nwa (z_sfr (z_nwa (z_sfr (z_nwa (z_sfr (z_nwa (z_sfr (z_nwa C 20 2) 1537 a (some (s))) 20 2) 1538 a (some (s + 1))) 20 2) 1539 a (some (s + 2))) 20 2) 1540 a (some (s + 3))) 21 2) 1541 a (some (s + 4))) 20 2) 1542 a (some (s + 5))) 20 2) 1543 a (some (s + 6))) 20 2) 1544 a (some (s + 7))) 20 2) 1545 a (some (s + 8))) 20 60) 1546 a (some (s + 9))) 20 2) 1547 a (some (s + 10))) 20 1300) 1548 a (some (s + 11))) 20 1300) 1549 a (some (s + 12))) 20 1300) 1550 a (some (s + 13))) 20 1300) 1552 a (some (s + 14))) 20 1300) 1553 a (some (s + 15))) 20 3600) 1555 a (some (s + 16))) 20 3600) 1556 a (some (s + 17))) 20 3600) 1557 a (some (s + 18))) 20 3600) 1558 a (some (s + 19))) 20 54000) 1560 a (some (s + 20))) 21 10) 1565 a (some (s + 21))) 1567 a (-1)) 21 400) 1569 a (some (s + 22))) 21 800) 1570 a (some (s + 23))) 20 4) 1571 a (some (s + 24))) 1572 a (-1)) 1574 a (-1)) 1575 a (-1)) 1578 a (-1)) 20 4) 1586 a (some (s + 25))) 20 4) 1587 a (some (s + 26))) 20 4) 1588 a (some (s + 27))) 1589 a 100) 1590 a 3) 21 800) 1591 a (some (s + 28))) 20 800) 1592 a (some (s + 29))) 20 400) 1593 a (some (s + 30))) 20 400) 1594 a (some (s + 31))) 20 400) 1595 a (some (s + 32))) 20 400) 1596 a (some (s + 33))) 20 400) 1597 a (some (s + 34))) 20 400) 1598 a (some (s + 35))) 20 400) 1599 a (some (s + 36))) 20 400) 1600 a (some (s + 37))) 21 400) 1601 a (some (s + 38))) 21 400) 1602 a (some (s + 39))) 21 400) 1603 a (some (s + 40))) 20 400) 1604 a (some (s + 41))) 20 400) 1605 a (some (s + 42))) 20 2) 1607 a (some (s + 43))) 20 2) 1608 a (some (s + 44))) 20 2) 1609 a (some (s + 45))) 20 2) 1610 a (some (s + 46))) 20 2) 1611 a (some (s + 47))) 20 2) 1612 a (some (s + 48))) 20 2) 1613 a (some (s + 49))) 21 2) 1614 a (some (s + 50))) 21 2) 1615 a (some (s + 51))) 20 2) 1616 a (some (s + 52))) 20 2) 1617 a (some (s + 53))) 20 2) 1618 a (some (s + 54))) 20 2) 1619 a (some (s + 55))) 20 2) 1620 a (some (s + 56))) 20 16) 1621 a (some (s + 57))) 20 2) 1622 a (some (s + 58))) 20 2) 1623 a (some (s + 59))) 20 2) 1624 a (some (s + 60))) 20 2) 1625 a (some (s + 61))) 20 2) 1626 a (some (s + 62))) 20 2) 1627 a (some (s + 63))) 20 2) 1628 a (some (s + 64))) 20 6) 1629 a (some (s + 65)))
set_option maxRecDepth 100000 in
set_option maxHeartbeats 4000000 in
theorem y_X12_init {n a s b r1 k1 r2 k2 : Nat} {M C : z_Mem} {Post : z_Mem → Prop} (hb : b = n + a) (h : y_B n M C r1 k1 r2 k2 s) (hr : Nat.ble (k1 + 66) r1 = true) (hq : Nat.ble (k2 + 83070) r2 = true) (k : ∀ M1 C1, y_B n M1 C1 r1 (k1 + 66) r2 (k2 + 83070) (s + 66) → C1 = c_X12_init a s C → ∃ m, P_X12_init_561 (n + a) Post m 0 M1) : P_X12_init b M Post := by
  subst hb
  have hr := Nat.le_of_ble_eq_true hr
  have hq := Nat.le_of_ble_eq_true hq
  unfold P_X12_init
  refine ⟨y_rm (w := 2) h (Nat.ble_eq_true_of_le (by omega)) (Nat.ble_eq_true_of_le (by omega)), ?_⟩
  intro M_63 e1
  obtain ⟨C1, f1⟩ : ∃ c, c = z_nwa C 20 2 := ⟨_, rfl⟩
  have h1 := y_Bnwa h e1 f1
  intro M_64 e2
  obtain ⟨C2, f2⟩ : ∃ c, c = z_sfr C1 1537 a (some (s)) := ⟨_, rfl⟩
  have h2 := y_Bsfr h1 h e2 f2
  refine ⟨y_rm (w := 2) h2 (Nat.ble_eq_true_of_le (by omega)) (Nat.ble_eq_true_of_le (by omega)), ?_⟩
  intro M_66 e3
  obtain ⟨C3, f3⟩ : ∃ c, c = z_nwa C2 20 2 := ⟨_, rfl⟩
  have h3 := y_Bnwa h2 e3 f3
  intro M_67 e4
  obtain ⟨C4, f4⟩ : ∃ c, c = z_sfr C3 1538 a (some (s + 1)) := ⟨_, rfl⟩
  have h4 := y_Bsfr h3 h2 e4 f4
  refine ⟨y_rm (w := 2) h4 (Nat.ble_eq_true_of_le (by omega)) (Nat.ble_eq_true_of_le (by omega)), ?_⟩
  intro M_69 e5
  obtain ⟨C5, f5⟩ : ∃ c, c = z_nwa C4 20 2 := ⟨_, rfl⟩
  have h5 := y_Bnwa h4 e5 f5
  intro M_70 e6
  obtain ⟨C6, f6⟩ : ∃ c, c = z_sfr C5 1539 a (some (s + 2)) := ⟨_, rfl⟩
  have h6 := y_Bsfr h5 h4 e6 f6
  refine ⟨y_rm (w := 2) h6 (Nat.ble_eq_true_of_le (by omega)) (Nat.ble_eq_true_of_le (by omega)), ?_⟩
  intro M_72 e7
  obtain ⟨C7, f7⟩ : ∃ c, c = z_nwa C6 20 2 := ⟨_, rfl⟩
  have h7 := y_Bnwa h6 e7 f7
  intro M_73 e8
  obtain ⟨C8, f8⟩ : ∃ c, c = z_sfr C7 1540 a (some (s + 3)) := ⟨_, rfl⟩
  have h8 := y_Bsfr h7 h6 e8 f8
  refine ⟨y_rm (w := 2) h8 (Nat.ble_eq_true_of_le (by omega)) (Nat.ble_eq_true_of_le (by omega)), ?_⟩
  intro M_75 e9
  obtain ⟨C9, f9⟩ : ∃ c, c = z_nwa C8 21 2 := ⟨_, rfl⟩
  have h9 := y_Bnwa h8 e9 f9
  intro M_76 e10
  obtain ⟨C10, f10⟩ : ∃ c, c = z_sfr C9 1541 a (some (s + 4)) := ⟨_, rfl⟩
  have h10 := y_Bsfr h9 h8 e10 f10
  refine ⟨y_rm (w := 2) h10 (Nat.ble_eq_true_of_le (by omega)) (Nat.ble_eq_true_of_le (by omega)), ?_⟩
  intro M_78 e11
  obtain ⟨C11, f11⟩ : ∃ c, c = z_nwa C10 20 2 := ⟨_, rfl⟩
  have h11 := y_Bnwa h10 e11 f11
  intro M_79 e12
  obtain ⟨C12, f12⟩ : ∃ c, c = z_sfr C11 1542 a (some (s + 5)) := ⟨_, rfl⟩
  have h12 := y_Bsfr h11 h10 e12 f12
  refine ⟨y_rm (w := 2) h12 (Nat.ble_eq_true_of_le (by omega)) (Nat.ble_eq_true_of_le (by omega)), ?_⟩
  intro M_81 e13
  obtain ⟨C13, f13⟩ : ∃ c, c = z_nwa C12 20 2 := ⟨_, rfl⟩
  have h13 := y_Bnwa h12 e13 f13
  intro M_82 e14
  obtain ⟨C14, f14⟩ : ∃ c, c = z_sfr C13 1543 a (some (s + 6)) := ⟨_, rfl⟩
  have h14 := y_Bsfr h13 h12 e14 f14
  refine ⟨y_rm (w := 2) h14 (Nat.ble_eq_true_of_le (by omega)) (Nat.ble_eq_true_of_le (by omega)), ?_⟩
  intro M_84 e15
  obtain ⟨C15, f15⟩ : ∃ c, c = z_nwa C14 20 2 := ⟨_, rfl⟩
  have h15 := y_Bnwa h14 e15 f15
  intro M_85 e16
  obtain ⟨C16, f16⟩ : ∃ c, c = z_sfr C15 1544 a (some (s + 7)) := ⟨_, rfl⟩
  have h16 := y_Bsfr h15 h14 e16 f16
  refine ⟨y_rm (w := 2) h16 (Nat.ble_eq_true_of_le (by omega)) (Nat.ble_eq_true_of_le (by omega)), ?_⟩
  intro M_87 e17
  obtain ⟨C17, f17⟩ : ∃ c, c = z_nwa C16 20 2 := ⟨_, rfl⟩
  have h17 := y_Bnwa h16 e17 f17
  intro M_88 e18
  obtain ⟨C18, f18⟩ : ∃ c, c = z_sfr C17 1545 a (some (s + 8)) := ⟨_, rfl⟩
  have h18 := y_Bsfr h17 h16 e18 f18
  refine ⟨y_rm (w := 60) h18 (Nat.ble_eq_true_of_le (by omega)) (Nat.ble_eq_true_of_le (by omega)), ?_⟩
  intro M_90 e19
  obtain ⟨C19, f19⟩ : ∃ c, c = z_nwa C18 20 60 := ⟨_, rfl⟩
  have h19 := y_Bnwa h18 e19 f19
  intro M_91 e20
  obtain ⟨C20, f20⟩ : ∃ c, c = z_sfr C19 1546 a (some (s + 9)) := ⟨_, rfl⟩
  have h20 := y_Bsfr h19 h18 e20 f20
  refine ⟨y_rm (w := 2) h20 (Nat.ble_eq_true_of_le (by omega)) (Nat.ble_eq_true_of_le (by omega)), ?_⟩
  intro M_93 e21
  obtain ⟨C21, f21⟩ : ∃ c, c = z_nwa C20 20 2 := ⟨_, rfl⟩
  have h21 := y_Bnwa h20 e21 f21
  intro M_94 e22
  obtain ⟨C22, f22⟩ : ∃ c, c = z_sfr C21 1547 a (some (s + 10)) := ⟨_, rfl⟩
  have h22 := y_Bsfr h21 h20 e22 f22
  refine ⟨y_rm (w := 1300) h22 (Nat.ble_eq_true_of_le (by omega)) (Nat.ble_eq_true_of_le (by omega)), ?_⟩
  intro M_96 e23
  obtain ⟨C23, f23⟩ : ∃ c, c = z_nwa C22 20 1300 := ⟨_, rfl⟩
  have h23 := y_Bnwa h22 e23 f23
  intro M_97 e24
  obtain ⟨C24, f24⟩ : ∃ c, c = z_sfr C23 1548 a (some (s + 11)) := ⟨_, rfl⟩
  have h24 := y_Bsfr h23 h22 e24 f24
  refine ⟨y_rm (w := 1300) h24 (Nat.ble_eq_true_of_le (by omega)) (Nat.ble_eq_true_of_le (by omega)), ?_⟩
  intro M_99 e25
  obtain ⟨C25, f25⟩ : ∃ c, c = z_nwa C24 20 1300 := ⟨_, rfl⟩
  have h25 := y_Bnwa h24 e25 f25
  intro M_100 e26
  obtain ⟨C26, f26⟩ : ∃ c, c = z_sfr C25 1549 a (some (s + 12)) := ⟨_, rfl⟩
  have h26 := y_Bsfr h25 h24 e26 f26
  refine ⟨y_rm (w := 1300) h26 (Nat.ble_eq_true_of_le (by omega)) (Nat.ble_eq_true_of_le (by omega)), ?_⟩
  intro M_102 e27
  obtain ⟨C27, f27⟩ : ∃ c, c = z_nwa C26 20 1300 := ⟨_, rfl⟩
  have h27 := y_Bnwa h26 e27 f27
  intro M_103 e28
  obtain ⟨C28, f28⟩ : ∃ c, c = z_sfr C27 1550 a (some (s + 13)) := ⟨_, rfl⟩
  have h28 := y_Bsfr h27 h26 e28 f28
  refine ⟨y_rm (w := 1300) h28 (Nat.ble_eq_true_of_le (by omega)) (Nat.ble_eq_true_of_le (by omega)), ?_⟩
  intro M_105 e29
  obtain ⟨C29, f29⟩ : ∃ c, c = z_nwa C28 20 1300 := ⟨_, rfl⟩
  have h29 := y_Bnwa h28 e29 f29
  intro M_106 e30
  obtain ⟨C30, f30⟩ : ∃ c, c = z_sfr C29 1552 a (some (s + 14)) := ⟨_, rfl⟩
  have h30 := y_Bsfr h29 h28 e30 f30
  refine ⟨y_rm (w := 1300) h30 (Nat.ble_eq_true_of_le (by omega)) (Nat.ble_eq_true_of_le (by omega)), ?_⟩
  intro M_108 e31
  obtain ⟨C31, f31⟩ : ∃ c, c = z_nwa C30 20 1300 := ⟨_, rfl⟩
  have h31 := y_Bnwa h30 e31 f31
  intro M_109 e32
  obtain ⟨C32, f32⟩ : ∃ c, c = z_sfr C31 1553 a (some (s + 15)) := ⟨_, rfl⟩
  have h32 := y_Bsfr h31 h30 e32 f32
  refine ⟨y_rm (w := 3600) h32 (Nat.ble_eq_true_of_le (by omega)) (Nat.ble_eq_true_of_le (by omega)), ?_⟩
  intro M_111 e33
  obtain ⟨C33, f33⟩ : ∃ c, c = z_nwa C32 20 3600 := ⟨_, rfl⟩
  have h33 := y_Bnwa h32 e33 f33
  intro M_112 e34
  obtain ⟨C34, f34⟩ : ∃ c, c = z_sfr C33 1555 a (some (s + 16)) := ⟨_, rfl⟩
  have h34 := y_Bsfr h33 h32 e34 f34
  refine ⟨y_rm (w := 3600) h34 (Nat.ble_eq_true_of_le (by omega)) (Nat.ble_eq_true_of_le (by omega)), ?_⟩
  intro M_114 e35
  obtain ⟨C35, f35⟩ : ∃ c, c = z_nwa C34 20 3600 := ⟨_, rfl⟩
  have h35 := y_Bnwa h34 e35 f35
  intro M_115 e36
  obtain ⟨C36, f36⟩ : ∃ c, c = z_sfr C35 1556 a (some (s + 17)) := ⟨_, rfl⟩
  have h36 := y_Bsfr h35 h34 e36 f36
  refine ⟨y_rm (w := 3600) h36 (Nat.ble_eq_true_of_le (by omega)) (Nat.ble_eq_true_of_le (by omega)), ?_⟩
  intro M_117 e37
  obtain ⟨C37, f37⟩ : ∃ c, c = z_nwa C36 20 3600 := ⟨_, rfl⟩
  have h37 := y_Bnwa h36 e37 f37
  intro M_118 e38
  obtain ⟨C38, f38⟩ : ∃ c, c = z_sfr C37 1557 a (some (s + 18)) := ⟨_, rfl⟩
  have h38 := y_Bsfr h37 h36 e38 f38
  refine ⟨y_rm (w := 3600) h38 (Nat.ble_eq_true_of_le (by omega)) (Nat.ble_eq_true_of_le (by omega)), ?_⟩
  intro M_120 e39
  obtain ⟨C39, f39⟩ : ∃ c, c = z_nwa C38 20 3600 := ⟨_, rfl⟩
  have h39 := y_Bnwa h38 e39 f39
  intro M_121 e40
  obtain ⟨C40, f40⟩ : ∃ c, c = z_sfr C39 1558 a (some (s + 19)) := ⟨_, rfl⟩
  have h40 := y_Bsfr h39 h38 e40 f40
  refine ⟨y_rm (w := 54000) h40 (Nat.ble_eq_true_of_le (by omega)) (Nat.ble_eq_true_of_le (by omega)), ?_⟩
  intro M_123 e41
  obtain ⟨C41, f41⟩ : ∃ c, c = z_nwa C40 20 54000 := ⟨_, rfl⟩
  have h41 := y_Bnwa h40 e41 f41
  intro M_124 e42
  obtain ⟨C42, f42⟩ : ∃ c, c = z_sfr C41 1560 a (some (s + 20)) := ⟨_, rfl⟩
  have h42 := y_Bsfr h41 h40 e42 f42
  refine ⟨y_rm (w := 10) h42 (Nat.ble_eq_true_of_le (by omega)) (Nat.ble_eq_true_of_le (by omega)), ?_⟩
  intro M_126 e43
  obtain ⟨C43, f43⟩ : ∃ c, c = z_nwa C42 21 10 := ⟨_, rfl⟩
  have h43 := y_Bnwa h42 e43 f43
  intro M_127 e44
  obtain ⟨C44, f44⟩ : ∃ c, c = z_sfr C43 1565 a (some (s + 21)) := ⟨_, rfl⟩
  have h44 := y_Bsfr h43 h42 e44 f44
  intro M_128 e45
  obtain ⟨C45, f45⟩ : ∃ c, c = z_sfi C44 1567 a (-1) := ⟨_, rfl⟩
  have h45 := y_Bsfi h44 e45 f45
  refine ⟨y_rm (w := 400) h45 (Nat.ble_eq_true_of_le (by omega)) (Nat.ble_eq_true_of_le (by omega)), ?_⟩
  intro M_130 e46
  obtain ⟨C46, f46⟩ : ∃ c, c = z_nwa C45 21 400 := ⟨_, rfl⟩
  have h46 := y_Bnwa h45 e46 f46
  intro M_131 e47
  obtain ⟨C47, f47⟩ : ∃ c, c = z_sfr C46 1569 a (some (s + 22)) := ⟨_, rfl⟩
  have h47 := y_Bsfr h46 h45 e47 f47
  refine ⟨y_rm (w := 800) h47 (Nat.ble_eq_true_of_le (by omega)) (Nat.ble_eq_true_of_le (by omega)), ?_⟩
  intro M_133 e48
  obtain ⟨C48, f48⟩ : ∃ c, c = z_nwa C47 21 800 := ⟨_, rfl⟩
  have h48 := y_Bnwa h47 e48 f48
  intro M_134 e49
  obtain ⟨C49, f49⟩ : ∃ c, c = z_sfr C48 1570 a (some (s + 23)) := ⟨_, rfl⟩
  have h49 := y_Bsfr h48 h47 e49 f49
  refine ⟨y_rm (w := 4) h49 (Nat.ble_eq_true_of_le (by omega)) (Nat.ble_eq_true_of_le (by omega)), ?_⟩
  intro M_136 e50
  obtain ⟨C50, f50⟩ : ∃ c, c = z_nwa C49 20 4 := ⟨_, rfl⟩
  have h50 := y_Bnwa h49 e50 f50
  intro M_137 e51
  obtain ⟨C51, f51⟩ : ∃ c, c = z_sfr C50 1571 a (some (s + 24)) := ⟨_, rfl⟩
  have h51 := y_Bsfr h50 h49 e51 f51
  intro M_138 e52
  obtain ⟨C52, f52⟩ : ∃ c, c = z_sfi C51 1572 a (-1) := ⟨_, rfl⟩
  have h52 := y_Bsfi h51 e52 f52
  intro M_139 e53
  obtain ⟨C53, f53⟩ : ∃ c, c = z_sfi C52 1574 a (-1) := ⟨_, rfl⟩
  have h53 := y_Bsfi h52 e53 f53
  intro M_140 e54
  obtain ⟨C54, f54⟩ : ∃ c, c = z_sfi C53 1575 a (-1) := ⟨_, rfl⟩
  have h54 := y_Bsfi h53 e54 f54
  intro M_141 e55
  obtain ⟨C55, f55⟩ : ∃ c, c = z_sfi C54 1578 a (-1) := ⟨_, rfl⟩
  have h55 := y_Bsfi h54 e55 f55
  refine ⟨y_rm (w := 4) h55 (Nat.ble_eq_true_of_le (by omega)) (Nat.ble_eq_true_of_le (by omega)), ?_⟩
  intro M_143 e56
  obtain ⟨C56, f56⟩ : ∃ c, c = z_nwa C55 20 4 := ⟨_, rfl⟩
  have h56 := y_Bnwa h55 e56 f56
  intro M_144 e57
  obtain ⟨C57, f57⟩ : ∃ c, c = z_sfr C56 1586 a (some (s + 25)) := ⟨_, rfl⟩
  have h57 := y_Bsfr h56 h55 e57 f57
  refine ⟨y_rm (w := 4) h57 (Nat.ble_eq_true_of_le (by omega)) (Nat.ble_eq_true_of_le (by omega)), ?_⟩
  intro M_146 e58
  obtain ⟨C58, f58⟩ : ∃ c, c = z_nwa C57 20 4 := ⟨_, rfl⟩
  have h58 := y_Bnwa h57 e58 f58
  intro M_147 e59
  obtain ⟨C59, f59⟩ : ∃ c, c = z_sfr C58 1587 a (some (s + 26)) := ⟨_, rfl⟩
  have h59 := y_Bsfr h58 h57 e59 f59
  refine ⟨y_rm (w := 4) h59 (Nat.ble_eq_true_of_le (by omega)) (Nat.ble_eq_true_of_le (by omega)), ?_⟩
  intro M_149 e60
  obtain ⟨C60, f60⟩ : ∃ c, c = z_nwa C59 20 4 := ⟨_, rfl⟩
  have h60 := y_Bnwa h59 e60 f60
  intro M_150 e61
  obtain ⟨C61, f61⟩ : ∃ c, c = z_sfr C60 1588 a (some (s + 27)) := ⟨_, rfl⟩
  have h61 := y_Bsfr h60 h59 e61 f61
  intro M_151 e62
  obtain ⟨C62, f62⟩ : ∃ c, c = z_sfi C61 1589 a 100 := ⟨_, rfl⟩
  have h62 := y_Bsfi h61 e62 f62
  intro M_152 e63
  obtain ⟨C63, f63⟩ : ∃ c, c = z_sfi C62 1590 a 3 := ⟨_, rfl⟩
  have h63 := y_Bsfi h62 e63 f63
  refine ⟨y_rm (w := 800) h63 (Nat.ble_eq_true_of_le (by omega)) (Nat.ble_eq_true_of_le (by omega)), ?_⟩
  intro M_154 e64
  obtain ⟨C64, f64⟩ : ∃ c, c = z_nwa C63 21 800 := ⟨_, rfl⟩
  have h64 := y_Bnwa h63 e64 f64
  intro M_155 e65
  obtain ⟨C65, f65⟩ : ∃ c, c = z_sfr C64 1591 a (some (s + 28)) := ⟨_, rfl⟩
  have h65 := y_Bsfr h64 h63 e65 f65
  refine ⟨y_rm (w := 800) h65 (Nat.ble_eq_true_of_le (by omega)) (Nat.ble_eq_true_of_le (by omega)), ?_⟩
  intro M_157 e66
  obtain ⟨C66, f66⟩ : ∃ c, c = z_nwa C65 20 800 := ⟨_, rfl⟩
  have h66 := y_Bnwa h65 e66 f66
  intro M_158 e67
  obtain ⟨C67, f67⟩ : ∃ c, c = z_sfr C66 1592 a (some (s + 29)) := ⟨_, rfl⟩
  have h67 := y_Bsfr h66 h65 e67 f67
  refine ⟨y_rm (w := 400) h67 (Nat.ble_eq_true_of_le (by omega)) (Nat.ble_eq_true_of_le (by omega)), ?_⟩
  intro M_160 e68
  obtain ⟨C68, f68⟩ : ∃ c, c = z_nwa C67 20 400 := ⟨_, rfl⟩
  have h68 := y_Bnwa h67 e68 f68
  intro M_161 e69
  obtain ⟨C69, f69⟩ : ∃ c, c = z_sfr C68 1593 a (some (s + 30)) := ⟨_, rfl⟩
  have h69 := y_Bsfr h68 h67 e69 f69
  refine ⟨y_rm (w := 400) h69 (Nat.ble_eq_true_of_le (by omega)) (Nat.ble_eq_true_of_le (by omega)), ?_⟩
  intro M_163 e70
  obtain ⟨C70, f70⟩ : ∃ c, c = z_nwa C69 20 400 := ⟨_, rfl⟩
  have h70 := y_Bnwa h69 e70 f70
  intro M_164 e71
  obtain ⟨C71, f71⟩ : ∃ c, c = z_sfr C70 1594 a (some (s + 31)) := ⟨_, rfl⟩
  have h71 := y_Bsfr h70 h69 e71 f71
  refine ⟨y_rm (w := 400) h71 (Nat.ble_eq_true_of_le (by omega)) (Nat.ble_eq_true_of_le (by omega)), ?_⟩
  intro M_166 e72
  obtain ⟨C72, f72⟩ : ∃ c, c = z_nwa C71 20 400 := ⟨_, rfl⟩
  have h72 := y_Bnwa h71 e72 f72
  intro M_167 e73
  obtain ⟨C73, f73⟩ : ∃ c, c = z_sfr C72 1595 a (some (s + 32)) := ⟨_, rfl⟩
  have h73 := y_Bsfr h72 h71 e73 f73
  refine ⟨y_rm (w := 400) h73 (Nat.ble_eq_true_of_le (by omega)) (Nat.ble_eq_true_of_le (by omega)), ?_⟩
  intro M_169 e74
  obtain ⟨C74, f74⟩ : ∃ c, c = z_nwa C73 20 400 := ⟨_, rfl⟩
  have h74 := y_Bnwa h73 e74 f74
  intro M_170 e75
  obtain ⟨C75, f75⟩ : ∃ c, c = z_sfr C74 1596 a (some (s + 33)) := ⟨_, rfl⟩
  have h75 := y_Bsfr h74 h73 e75 f75
  refine ⟨y_rm (w := 400) h75 (Nat.ble_eq_true_of_le (by omega)) (Nat.ble_eq_true_of_le (by omega)), ?_⟩
  intro M_172 e76
  obtain ⟨C76, f76⟩ : ∃ c, c = z_nwa C75 20 400 := ⟨_, rfl⟩
  have h76 := y_Bnwa h75 e76 f76
  intro M_173 e77
  obtain ⟨C77, f77⟩ : ∃ c, c = z_sfr C76 1597 a (some (s + 34)) := ⟨_, rfl⟩
  have h77 := y_Bsfr h76 h75 e77 f77
  refine ⟨y_rm (w := 400) h77 (Nat.ble_eq_true_of_le (by omega)) (Nat.ble_eq_true_of_le (by omega)), ?_⟩
  intro M_175 e78
  obtain ⟨C78, f78⟩ : ∃ c, c = z_nwa C77 20 400 := ⟨_, rfl⟩
  have h78 := y_Bnwa h77 e78 f78
  intro M_176 e79
  obtain ⟨C79, f79⟩ : ∃ c, c = z_sfr C78 1598 a (some (s + 35)) := ⟨_, rfl⟩
  have h79 := y_Bsfr h78 h77 e79 f79
  refine ⟨y_rm (w := 400) h79 (Nat.ble_eq_true_of_le (by omega)) (Nat.ble_eq_true_of_le (by omega)), ?_⟩
  intro M_178 e80
  obtain ⟨C80, f80⟩ : ∃ c, c = z_nwa C79 20 400 := ⟨_, rfl⟩
  have h80 := y_Bnwa h79 e80 f80
  intro M_179 e81
  obtain ⟨C81, f81⟩ : ∃ c, c = z_sfr C80 1599 a (some (s + 36)) := ⟨_, rfl⟩
  have h81 := y_Bsfr h80 h79 e81 f81
  refine ⟨y_rm (w := 400) h81 (Nat.ble_eq_true_of_le (by omega)) (Nat.ble_eq_true_of_le (by omega)), ?_⟩
  intro M_181 e82
  obtain ⟨C82, f82⟩ : ∃ c, c = z_nwa C81 20 400 := ⟨_, rfl⟩
  have h82 := y_Bnwa h81 e82 f82
  intro M_182 e83
  obtain ⟨C83, f83⟩ : ∃ c, c = z_sfr C82 1600 a (some (s + 37)) := ⟨_, rfl⟩
  have h83 := y_Bsfr h82 h81 e83 f83
  refine ⟨y_rm (w := 400) h83 (Nat.ble_eq_true_of_le (by omega)) (Nat.ble_eq_true_of_le (by omega)), ?_⟩
  intro M_184 e84
  obtain ⟨C84, f84⟩ : ∃ c, c = z_nwa C83 21 400 := ⟨_, rfl⟩
  have h84 := y_Bnwa h83 e84 f84
  intro M_185 e85
  obtain ⟨C85, f85⟩ : ∃ c, c = z_sfr C84 1601 a (some (s + 38)) := ⟨_, rfl⟩
  have h85 := y_Bsfr h84 h83 e85 f85
  refine ⟨y_rm (w := 400) h85 (Nat.ble_eq_true_of_le (by omega)) (Nat.ble_eq_true_of_le (by omega)), ?_⟩
  intro M_187 e86
  obtain ⟨C86, f86⟩ : ∃ c, c = z_nwa C85 21 400 := ⟨_, rfl⟩
  have h86 := y_Bnwa h85 e86 f86
  intro M_188 e87
  obtain ⟨C87, f87⟩ : ∃ c, c = z_sfr C86 1602 a (some (s + 39)) := ⟨_, rfl⟩
  have h87 := y_Bsfr h86 h85 e87 f87
  refine ⟨y_rm (w := 400) h87 (Nat.ble_eq_true_of_le (by omega)) (Nat.ble_eq_true_of_le (by omega)), ?_⟩
  intro M_190 e88
  obtain ⟨C88, f88⟩ : ∃ c, c = z_nwa C87 21 400 := ⟨_, rfl⟩
  have h88 := y_Bnwa h87 e88 f88
  intro M_191 e89
  obtain ⟨C89, f89⟩ : ∃ c, c = z_sfr C88 1603 a (some (s + 40)) := ⟨_, rfl⟩
  have h89 := y_Bsfr h88 h87 e89 f89
  refine ⟨y_rm (w := 400) h89 (Nat.ble_eq_true_of_le (by omega)) (Nat.ble_eq_true_of_le (by omega)), ?_⟩
  intro M_193 e90
  obtain ⟨C90, f90⟩ : ∃ c, c = z_nwa C89 20 400 := ⟨_, rfl⟩
  have h90 := y_Bnwa h89 e90 f90
  intro M_194 e91
  obtain ⟨C91, f91⟩ : ∃ c, c = z_sfr C90 1604 a (some (s + 41)) := ⟨_, rfl⟩
  have h91 := y_Bsfr h90 h89 e91 f91
  refine ⟨y_rm (w := 400) h91 (Nat.ble_eq_true_of_le (by omega)) (Nat.ble_eq_true_of_le (by omega)), ?_⟩
  intro M_196 e92
  obtain ⟨C92, f92⟩ : ∃ c, c = z_nwa C91 20 400 := ⟨_, rfl⟩
  have h92 := y_Bnwa h91 e92 f92
  intro M_197 e93
  obtain ⟨C93, f93⟩ : ∃ c, c = z_sfr C92 1605 a (some (s + 42)) := ⟨_, rfl⟩
  have h93 := y_Bsfr h92 h91 e93 f93
  refine ⟨y_rm (w := 2) h93 (Nat.ble_eq_true_of_le (by omega)) (Nat.ble_eq_true_of_le (by omega)), ?_⟩
  intro M_199 e94
  obtain ⟨C94, f94⟩ : ∃ c, c = z_nwa C93 20 2 := ⟨_, rfl⟩
  have h94 := y_Bnwa h93 e94 f94
  intro M_200 e95
  obtain ⟨C95, f95⟩ : ∃ c, c = z_sfr C94 1607 a (some (s + 43)) := ⟨_, rfl⟩
  have h95 := y_Bsfr h94 h93 e95 f95
  refine ⟨y_rm (w := 2) h95 (Nat.ble_eq_true_of_le (by omega)) (Nat.ble_eq_true_of_le (by omega)), ?_⟩
  intro M_202 e96
  obtain ⟨C96, f96⟩ : ∃ c, c = z_nwa C95 20 2 := ⟨_, rfl⟩
  have h96 := y_Bnwa h95 e96 f96
  intro M_203 e97
  obtain ⟨C97, f97⟩ : ∃ c, c = z_sfr C96 1608 a (some (s + 44)) := ⟨_, rfl⟩
  have h97 := y_Bsfr h96 h95 e97 f97
  refine ⟨y_rm (w := 2) h97 (Nat.ble_eq_true_of_le (by omega)) (Nat.ble_eq_true_of_le (by omega)), ?_⟩
  intro M_205 e98
  obtain ⟨C98, f98⟩ : ∃ c, c = z_nwa C97 20 2 := ⟨_, rfl⟩
  have h98 := y_Bnwa h97 e98 f98
  intro M_206 e99
  obtain ⟨C99, f99⟩ : ∃ c, c = z_sfr C98 1609 a (some (s + 45)) := ⟨_, rfl⟩
  have h99 := y_Bsfr h98 h97 e99 f99
  refine ⟨y_rm (w := 2) h99 (Nat.ble_eq_true_of_le (by omega)) (Nat.ble_eq_true_of_le (by omega)), ?_⟩
  intro M_208 e100
  obtain ⟨C100, f100⟩ : ∃ c, c = z_nwa C99 20 2 := ⟨_, rfl⟩
  have h100 := y_Bnwa h99 e100 f100
  intro M_209 e101
  obtain ⟨C101, f101⟩ : ∃ c, c = z_sfr C100 1610 a (some (s + 46)) := ⟨_, rfl⟩
  have h101 := y_Bsfr h100 h99 e101 f101
  refine ⟨y_rm (w := 2) h101 (Nat.ble_eq_true_of_le (by omega)) (Nat.ble_eq_true_of_le (by omega)), ?_⟩
  intro M_211 e102
  obtain ⟨C102, f102⟩ : ∃ c, c = z_nwa C101 20 2 := ⟨_, rfl⟩
  have h102 := y_Bnwa h101 e102 f102
  intro M_212 e103
  obtain ⟨C103, f103⟩ : ∃ c, c = z_sfr C102 1611 a (some (s + 47)) := ⟨_, rfl⟩
  have h103 := y_Bsfr h102 h101 e103 f103
  refine ⟨y_rm (w := 2) h103 (Nat.ble_eq_true_of_le (by omega)) (Nat.ble_eq_true_of_le (by omega)), ?_⟩
  intro M_214 e104
  obtain ⟨C104, f104⟩ : ∃ c, c = z_nwa C103 20 2 := ⟨_, rfl⟩
  have h104 := y_Bnwa h103 e104 f104
  intro M_215 e105
  obtain ⟨C105, f105⟩ : ∃ c, c = z_sfr C104 1612 a (some (s + 48)) := ⟨_, rfl⟩
  have h105 := y_Bsfr h104 h103 e105 f105
  refine ⟨y_rm (w := 2) h105 (Nat.ble_eq_true_of_le (by omega)) (Nat.ble_eq_true_of_le (by omega)), ?_⟩
  intro M_217 e106
  obtain ⟨C106, f106⟩ : ∃ c, c = z_nwa C105 20 2 := ⟨_, rfl⟩
  have h106 := y_Bnwa h105 e106 f106
  intro M_218 e107
  obtain ⟨C107, f107⟩ : ∃ c, c = z_sfr C106 1613 a (some (s + 49)) := ⟨_, rfl⟩
  have h107 := y_Bsfr h106 h105 e107 f107
  refine ⟨y_rm (w := 2) h107 (Nat.ble_eq_true_of_le (by omega)) (Nat.ble_eq_true_of_le (by omega)), ?_⟩
  intro M_220 e108
  obtain ⟨C108, f108⟩ : ∃ c, c = z_nwa C107 21 2 := ⟨_, rfl⟩
  have h108 := y_Bnwa h107 e108 f108
  intro M_221 e109
  obtain ⟨C109, f109⟩ : ∃ c, c = z_sfr C108 1614 a (some (s + 50)) := ⟨_, rfl⟩
  have h109 := y_Bsfr h108 h107 e109 f109
  refine ⟨y_rm (w := 2) h109 (Nat.ble_eq_true_of_le (by omega)) (Nat.ble_eq_true_of_le (by omega)), ?_⟩
  intro M_223 e110
  obtain ⟨C110, f110⟩ : ∃ c, c = z_nwa C109 21 2 := ⟨_, rfl⟩
  have h110 := y_Bnwa h109 e110 f110
  intro M_224 e111
  obtain ⟨C111, f111⟩ : ∃ c, c = z_sfr C110 1615 a (some (s + 51)) := ⟨_, rfl⟩
  have h111 := y_Bsfr h110 h109 e111 f111
  refine ⟨y_rm (w := 2) h111 (Nat.ble_eq_true_of_le (by omega)) (Nat.ble_eq_true_of_le (by omega)), ?_⟩
  intro M_226 e112
  obtain ⟨C112, f112⟩ : ∃ c, c = z_nwa C111 20 2 := ⟨_, rfl⟩
  have h112 := y_Bnwa h111 e112 f112
  intro M_227 e113
  obtain ⟨C113, f113⟩ : ∃ c, c = z_sfr C112 1616 a (some (s + 52)) := ⟨_, rfl⟩
  have h113 := y_Bsfr h112 h111 e113 f113
  refine ⟨y_rm (w := 2) h113 (Nat.ble_eq_true_of_le (by omega)) (Nat.ble_eq_true_of_le (by omega)), ?_⟩
  intro M_229 e114
  obtain ⟨C114, f114⟩ : ∃ c, c = z_nwa C113 20 2 := ⟨_, rfl⟩
  have h114 := y_Bnwa h113 e114 f114
  intro M_230 e115
  obtain ⟨C115, f115⟩ : ∃ c, c = z_sfr C114 1617 a (some (s + 53)) := ⟨_, rfl⟩
  have h115 := y_Bsfr h114 h113 e115 f115
  refine ⟨y_rm (w := 2) h115 (Nat.ble_eq_true_of_le (by omega)) (Nat.ble_eq_true_of_le (by omega)), ?_⟩
  intro M_232 e116
  obtain ⟨C116, f116⟩ : ∃ c, c = z_nwa C115 20 2 := ⟨_, rfl⟩
  have h116 := y_Bnwa h115 e116 f116
  intro M_233 e117
  obtain ⟨C117, f117⟩ : ∃ c, c = z_sfr C116 1618 a (some (s + 54)) := ⟨_, rfl⟩
  have h117 := y_Bsfr h116 h115 e117 f117
  refine ⟨y_rm (w := 2) h117 (Nat.ble_eq_true_of_le (by omega)) (Nat.ble_eq_true_of_le (by omega)), ?_⟩
  intro M_235 e118
  obtain ⟨C118, f118⟩ : ∃ c, c = z_nwa C117 20 2 := ⟨_, rfl⟩
  have h118 := y_Bnwa h117 e118 f118
  intro M_236 e119
  obtain ⟨C119, f119⟩ : ∃ c, c = z_sfr C118 1619 a (some (s + 55)) := ⟨_, rfl⟩
  have h119 := y_Bsfr h118 h117 e119 f119
  refine ⟨y_rm (w := 2) h119 (Nat.ble_eq_true_of_le (by omega)) (Nat.ble_eq_true_of_le (by omega)), ?_⟩
  intro M_238 e120
  obtain ⟨C120, f120⟩ : ∃ c, c = z_nwa C119 20 2 := ⟨_, rfl⟩
  have h120 := y_Bnwa h119 e120 f120
  intro M_239 e121
  obtain ⟨C121, f121⟩ : ∃ c, c = z_sfr C120 1620 a (some (s + 56)) := ⟨_, rfl⟩
  have h121 := y_Bsfr h120 h119 e121 f121
  refine ⟨y_rm (w := 16) h121 (Nat.ble_eq_true_of_le (by omega)) (Nat.ble_eq_true_of_le (by omega)), ?_⟩
  intro M_241 e122
  obtain ⟨C122, f122⟩ : ∃ c, c = z_nwa C121 20 16 := ⟨_, rfl⟩
  have h122 := y_Bnwa h121 e122 f122
  intro M_242 e123
  obtain ⟨C123, f123⟩ : ∃ c, c = z_sfr C122 1621 a (some (s + 57)) := ⟨_, rfl⟩
  have h123 := y_Bsfr h122 h121 e123 f123
  refine ⟨y_rm (w := 2) h123 (Nat.ble_eq_true_of_le (by omega)) (Nat.ble_eq_true_of_le (by omega)), ?_⟩
  intro M_244 e124
  obtain ⟨C124, f124⟩ : ∃ c, c = z_nwa C123 20 2 := ⟨_, rfl⟩
  have h124 := y_Bnwa h123 e124 f124
  intro M_245 e125
  obtain ⟨C125, f125⟩ : ∃ c, c = z_sfr C124 1622 a (some (s + 58)) := ⟨_, rfl⟩
  have h125 := y_Bsfr h124 h123 e125 f125
  refine ⟨y_rm (w := 2) h125 (Nat.ble_eq_true_of_le (by omega)) (Nat.ble_eq_true_of_le (by omega)), ?_⟩
  intro M_247 e126
  obtain ⟨C126, f126⟩ : ∃ c, c = z_nwa C125 20 2 := ⟨_, rfl⟩
  have h126 := y_Bnwa h125 e126 f126
  intro M_248 e127
  obtain ⟨C127, f127⟩ : ∃ c, c = z_sfr C126 1623 a (some (s + 59)) := ⟨_, rfl⟩
  have h127 := y_Bsfr h126 h125 e127 f127
  refine ⟨y_rm (w := 2) h127 (Nat.ble_eq_true_of_le (by omega)) (Nat.ble_eq_true_of_le (by omega)), ?_⟩
  intro M_250 e128
  obtain ⟨C128, f128⟩ : ∃ c, c = z_nwa C127 20 2 := ⟨_, rfl⟩
  have h128 := y_Bnwa h127 e128 f128
  intro M_251 e129
  obtain ⟨C129, f129⟩ : ∃ c, c = z_sfr C128 1624 a (some (s + 60)) := ⟨_, rfl⟩
  have h129 := y_Bsfr h128 h127 e129 f129
  refine ⟨y_rm (w := 2) h129 (Nat.ble_eq_true_of_le (by omega)) (Nat.ble_eq_true_of_le (by omega)), ?_⟩
  intro M_253 e130
  obtain ⟨C130, f130⟩ : ∃ c, c = z_nwa C129 20 2 := ⟨_, rfl⟩
  have h130 := y_Bnwa h129 e130 f130
  intro M_254 e131
  obtain ⟨C131, f131⟩ : ∃ c, c = z_sfr C130 1625 a (some (s + 61)) := ⟨_, rfl⟩
  have h131 := y_Bsfr h130 h129 e131 f131
  refine ⟨y_rm (w := 2) h131 (Nat.ble_eq_true_of_le (by omega)) (Nat.ble_eq_true_of_le (by omega)), ?_⟩
  intro M_256 e132
  obtain ⟨C132, f132⟩ : ∃ c, c = z_nwa C131 20 2 := ⟨_, rfl⟩
  have h132 := y_Bnwa h131 e132 f132
  intro M_257 e133
  obtain ⟨C133, f133⟩ : ∃ c, c = z_sfr C132 1626 a (some (s + 62)) := ⟨_, rfl⟩
  have h133 := y_Bsfr h132 h131 e133 f133
  refine ⟨y_rm (w := 2) h133 (Nat.ble_eq_true_of_le (by omega)) (Nat.ble_eq_true_of_le (by omega)), ?_⟩
  intro M_259 e134
  obtain ⟨C134, f134⟩ : ∃ c, c = z_nwa C133 20 2 := ⟨_, rfl⟩
  have h134 := y_Bnwa h133 e134 f134
  intro M_260 e135
  obtain ⟨C135, f135⟩ : ∃ c, c = z_sfr C134 1627 a (some (s + 63)) := ⟨_, rfl⟩
  have h135 := y_Bsfr h134 h133 e135 f135
  refine ⟨y_rm (w := 2) h135 (Nat.ble_eq_true_of_le (by omega)) (Nat.ble_eq_true_of_le (by omega)), ?_⟩
  intro M_262 e136
  obtain ⟨C136, f136⟩ : ∃ c, c = z_nwa C135 20 2 := ⟨_, rfl⟩
  have h136 := y_Bnwa h135 e136 f136
  intro M_263 e137
  obtain ⟨C137, f137⟩ : ∃ c, c = z_sfr C136 1628 a (some (s + 64)) := ⟨_, rfl⟩
  have h137 := y_Bsfr h136 h135 e137 f137
  refine ⟨y_rm (w := 6) h137 (Nat.ble_eq_true_of_le (by omega)) (Nat.ble_eq_true_of_le (by omega)), ?_⟩
  intro M_265 e138
  obtain ⟨C138, f138⟩ : ∃ c, c = z_nwa C137 20 6 := ⟨_, rfl⟩
  have h138 := y_Bnwa h137 e138 f138
  intro M_266 e139
  obtain ⟨C139, f139⟩ : ∃ c, c = z_sfr C138 1629 a (some (s + 65)) := ⟨_, rfl⟩
  have h139 := y_Bsfr h138 h137 e139 f139
  exact k _ _ h139 (by rw [f139, f138, f137, f136, f135, f134, f133, f132, f131, f130, f129, f128, f127, f126, f125, f124, f123, f122, f121, f120, f119, f118, f117, f116, f115, f114, f113, f112, f111, f110, f109, f108, f107, f106, f105, f104, f103, f102, f101, f100, f99, f98, f97, f96, f95, f94, f93, f92, f91, f90, f89, f88, f87, f86, f85, f84, f83, f82, f81, f80, f79, f78, f77, f76, f75, f74, f73, f72, f71, f70, f69, f68, f67, f66, f65, f64, f63, f62, f61, f60, f59, f58, f57, f56, f55, f54, f53, f52, f51, f50, f49, f48, f47, f46, f45, f44, f43, f42, f41, f40, f39, f38, f37, f36, f35, f34, f33, f32, f31, f30, f29, f28, f27, f26, f25, f24, f23, f22, f21, f20, f19, f18, f17, f16, f15, f14, f13, f12, f11, f10, f9, f8, f7, f6, f5, f4, f3, f2, f1]; rfl)
noncomputable def y_m0 : z_Mem := z_M0 0
noncomputable def y_m1 : z_Mem := z_new y_m0 12 5
noncomputable def y_m2 : z_Mem := z_new y_m1 6 6
noncomputable def y_m3 : z_Mem := c_X5_init 1 2 y_m2
noncomputable def y_m4 : z_Mem := z_sfr y_m3 1408 0 (some 1)
noncomputable def y_m5 : z_Mem := z_nwa y_m4 24 4
noncomputable def y_m6 : z_Mem := z_sfr y_m5 1409 0 (some 11)
noncomputable def y_m7 : z_Mem := z_new y_m6 10 10
noncomputable def y_m8 : z_Mem := c_X9_init 12 13 y_m7
noncomputable def y_m9 : z_Mem := z_sar y_m8 11 0 (some 12)
noncomputable def y_m10 : z_Mem := z_new y_m9 10 10
noncomputable def y_m11 : z_Mem := c_X9_init 16 17 y_m10
noncomputable def y_m12 : z_Mem := z_sar y_m11 11 1 (some 16)
noncomputable def y_m13 : z_Mem := z_new y_m12 10 10
noncomputable def y_m14 : z_Mem := c_X9_init 20 21 y_m13
noncomputable def y_m15 : z_Mem := z_sar y_m14 11 2 (some 20)
noncomputable def y_m16 : z_Mem := z_new y_m15 10 10
noncomputable def y_m17 : z_Mem := c_X9_init 24 25 y_m16
noncomputable def y_m18 : z_Mem := z_sar y_m17 11 3 (some 24)
noncomputable def y_m19 : z_Mem := z_new y_m18 9 16
noncomputable def y_m20 : z_Mem := c_X8_init 28 29 1 11 y_m19
noncomputable def y_m21 : z_Mem := z_sfr y_m20 1410 0 (some 28)
noncomputable def y_m22 : z_Mem := z_new y_m21 2 19
noncomputable def y_m23 : z_Mem := c_X1_init 31 32 1 11 y_m22
noncomputable def y_m24 : z_Mem := z_sfr y_m23 1411 0 (some 31)
noncomputable def y_m25 : z_Mem := z_nwa y_m24 21 200
noncomputable def y_m26 : z_Mem := z_sfr y_m25 1412 0 (some 39)
noncomputable def y_m27 : z_Mem := z_new y_m26 13 95
noncomputable def y_m28 : z_Mem := c_X12_init 40 41 y_m27
set_option maxRecDepth 100000 in
theorem y_f1537 : z_fr y_m28 1537 40 = some 41 := by decide +kernel
set_option maxRecDepth 100000 in
theorem y_l1537 : z_ln y_m28 41 = 2 := by decide +kernel
set_option maxRecDepth 100000 in
theorem y_f1538 : z_fr y_m28 1538 40 = some 42 := by decide +kernel
set_option maxRecDepth 100000 in
theorem y_l1538 : z_ln y_m28 42 = 2 := by decide +kernel
set_option maxRecDepth 100000 in
theorem y_f1539 : z_fr y_m28 1539 40 = some 43 := by decide +kernel
set_option maxRecDepth 100000 in
theorem y_l1539 : z_ln y_m28 43 = 2 := by decide +kernel
set_option maxRecDepth 100000 in
theorem y_f1540 : z_fr y_m28 1540 40 = some 44 := by decide +kernel
set_option maxRecDepth 100000 in
theorem y_l1540 : z_ln y_m28 44 = 2 := by decide +kernel
set_option maxRecDepth 100000 in
theorem y_f1588 : z_fr y_m28 1588 40 = some 68 := by decide +kernel
set_option maxRecDepth 100000 in
theorem y_l1588 : z_ln y_m28 68 = 4 := by decide +kernel
set_option maxRecDepth 100000 in
theorem y_f1607 : z_fr y_m28 1607 40 = some 84 := by decide +kernel
set_option maxRecDepth 100000 in
theorem y_l1607 : z_ln y_m28 84 = 2 := by decide +kernel
set_option maxRecDepth 100000 in
theorem y_f1608 : z_fr y_m28 1608 40 = some 85 := by decide +kernel
set_option maxRecDepth 100000 in
theorem y_l1608 : z_ln y_m28 85 = 2 := by decide +kernel
set_option maxRecDepth 100000 in
theorem y_f1610 : z_fr y_m28 1610 40 = some 87 := by decide +kernel
set_option maxRecDepth 100000 in
theorem y_l1610 : z_ln y_m28 87 = 2 := by decide +kernel
set_option maxRecDepth 100000 in
theorem y_f1611 : z_fr y_m28 1611 40 = some 88 := by decide +kernel
set_option maxRecDepth 100000 in
theorem y_l1611 : z_ln y_m28 88 = 2 := by decide +kernel
set_option maxRecDepth 100000 in
theorem y_f1612 : z_fr y_m28 1612 40 = some 89 := by decide +kernel
set_option maxRecDepth 100000 in
theorem y_l1612 : z_ln y_m28 89 = 2 := by decide +kernel
set_option maxRecDepth 100000 in
theorem y_f1613 : z_fr y_m28 1613 40 = some 90 := by decide +kernel
set_option maxRecDepth 100000 in
theorem y_l1613 : z_ln y_m28 90 = 2 := by decide +kernel
set_option maxRecDepth 100000 in
theorem y_f1615 : z_fr y_m28 1615 40 = some 92 := by decide +kernel
set_option maxRecDepth 100000 in
theorem y_l1615 : z_ln y_m28 92 = 2 := by decide +kernel
set_option maxRecDepth 100000 in
theorem y_f1617 : z_fr y_m28 1617 40 = some 94 := by decide +kernel
set_option maxRecDepth 100000 in
theorem y_l1617 : z_ln y_m28 94 = 2 := by decide +kernel
set_option maxRecDepth 100000 in
theorem y_f1625 : z_fr y_m28 1625 40 = some 102 := by decide +kernel
set_option maxRecDepth 100000 in
theorem y_l1625 : z_ln y_m28 102 = 2 := by decide +kernel
noncomputable def y_m29 : z_Mem := z_sai y_m28 41 0 5
noncomputable def y_m30 : z_Mem := z_sai y_m29 42 0 2
noncomputable def y_m31 : z_Mem := z_sai y_m30 43 0 8
noncomputable def y_m32 : z_Mem := z_sai y_m31 44 0 6
noncomputable def y_m33 : z_Mem := z_sai y_m32 84 0 160
noncomputable def y_m34 : z_Mem := z_sai y_m33 85 0 999999
noncomputable def y_m35 : z_Mem := z_sai y_m34 87 0 80
noncomputable def y_m36 : z_Mem := z_sai y_m35 88 0 20
noncomputable def y_m37 : z_Mem := z_sai y_m36 89 0 10
noncomputable def y_m38 : z_Mem := z_sai y_m37 90 0 10
noncomputable def y_m39 : z_Mem := z_sai y_m38 94 0 (-1)
noncomputable def y_m40 : z_Mem := z_sai y_m39 102 0 (-1)
noncomputable def y_m41 : z_Mem := z_sai y_m40 41 1 5
noncomputable def y_m42 : z_Mem := z_sai y_m41 42 1 2
noncomputable def y_m43 : z_Mem := z_sai y_m42 43 1 8
noncomputable def y_m44 : z_Mem := z_sai y_m43 44 1 6
noncomputable def y_m45 : z_Mem := z_sai y_m44 84 1 160
noncomputable def y_m46 : z_Mem := z_sai y_m45 85 1 999999
noncomputable def y_m47 : z_Mem := z_sai y_m46 87 1 80
noncomputable def y_m48 : z_Mem := z_sai y_m47 88 1 20
noncomputable def y_m49 : z_Mem := z_sai y_m48 89 1 10
noncomputable def y_m50 : z_Mem := z_sai y_m49 90 1 10
noncomputable def y_m51 : z_Mem := z_sai y_m50 94 1 (-1)
noncomputable def y_m52 : z_Mem := z_sai y_m51 102 1 (-1)
noncomputable def y_m53 : z_Mem := z_sai y_m52 92 0 1
noncomputable def y_m54 : z_Mem := z_sai y_m53 68 0 40
noncomputable def y_m55 : z_Mem := z_sai y_m54 68 1 40
noncomputable def y_m56 : z_Mem := z_sai y_m55 68 2 40
noncomputable def y_m57 : z_Mem := z_sai y_m56 68 3 40
noncomputable def y_m58 : z_Mem := z_nwa y_m57 25 1
noncomputable abbrev y_C : z_Mem := y_m58
set_option maxRecDepth 100000 in
set_option maxHeartbeats 4000000 in
theorem y_start {L : Nat} {xs : Nat → Int32} {n : Nat} {Post : Int32 → z_Mem → Prop} (k : ∀ M, y_B n M y_C 601024 108 7293034 89908 108 → ∃ m, P_L_law_23 L xs Post m (some (n + 0)) (some (n + 40)) (some (n + 107)) 0 M) : P_L_law L xs (z_M0 n) Post := by
  have h0 : y_B n (z_M0 n) y_m0 601024 0 7293034 0 0 := ⟨y_sh_0, Nat.le_refl _, Nat.le_refl _, rfl⟩
  unfold P_L_law
  rw [y_zz h0]
  refine ⟨y_rm (w := 5) h0 rfl rfl, ?_⟩
  intro M1 e1
  have h1 := y_Bnew h0 e1 (rfl : y_m1 = _)
  unfold P_X11_init
  refine ⟨y_rm (w := 6) h1 rfl rfl, ?_⟩
  intro M2 e2
  have h2 := y_Bnew h1 e2 (rfl : y_m2 = _)
  show P_X5_init (z_sz M1) M2 _
  refine y_X5_init (y_zz h1) h2 rfl rfl (fun M3 C3 h3 f3 => ?_)
  have f3 : C3 = y_m3 := f3
  subst f3
  intro M4 e4
  have h4 := y_Bsfr h3 h1 e4 (rfl : y_m4 = z_sfr y_m3 1408 0 (some 1))
  refine ⟨y_rm (w := 4) h4 rfl rfl, ?_⟩
  intro M5 e5
  have h5 := y_Bnwa h4 e5 (rfl : y_m5 = _)
  intro M6 e6
  have h6 := y_Bsfr h5 h4 e6 (rfl : y_m6 = z_sfr y_m5 1409 0 (some 11))
  refine ⟨5, ?_⟩
  rw [P_X11_init_25]
  refine ⟨fun hx => absurd hx (by decide), fun _ => ?_⟩
  refine ⟨y_rm (w := 10) h6 rfl rfl, ?_⟩
  intro M7 e7
  have h7 := y_Bnew h6 e7 (rfl : y_m7 = _)
  refine y_X9_init (y_zz h6) h7 rfl rfl (fun M8 C8 h8 f8 => ?_)
  have f8 : C8 = y_m8 := f8
  subst f8
  refine ⟨n + 11, (y_Bfr h6 (show z_fr y_m6 1409 0 = some 11 from by decide +kernel)), ?_⟩
  refine ⟨by rw [(y_Bln h8 (show z_ln y_m8 11 = 4 from by decide +kernel))]; exact y_in (by decide), ?_⟩
  intro M9 e9
  rw [y_zz h6] at e9
  have h9 := y_Bsar (j := 0) h8 e9 (rfl : y_m9 = z_sar y_m8 11 0 (some 12))
  intro x9 ex9; subst ex9
  rw [P_X11_init_25]
  refine ⟨fun hx => absurd hx (by decide), fun _ => ?_⟩
  refine ⟨y_rm (w := 10) h9 rfl rfl, ?_⟩
  intro M10 e10
  have h10 := y_Bnew h9 e10 (rfl : y_m10 = _)
  refine y_X9_init (y_zz h9) h10 rfl rfl (fun M11 C11 h11 f11 => ?_)
  have f11 : C11 = y_m11 := f11
  subst f11
  refine ⟨n + 11, (y_Bfr h9 (show z_fr y_m9 1409 0 = some 11 from by decide +kernel)), ?_⟩
  refine ⟨by rw [(y_Bln h11 (show z_ln y_m11 11 = 4 from by decide +kernel))]; exact y_in (by decide), ?_⟩
  intro M12 e12
  rw [y_zz h9] at e12
  have h12 := y_Bsar (j := 1) h11 e12 (rfl : y_m12 = z_sar y_m11 11 1 (some 16))
  intro x12 ex12; subst ex12
  rw [P_X11_init_25]
  refine ⟨fun hx => absurd hx (by decide), fun _ => ?_⟩
  refine ⟨y_rm (w := 10) h12 rfl rfl, ?_⟩
  intro M13 e13
  have h13 := y_Bnew h12 e13 (rfl : y_m13 = _)
  refine y_X9_init (y_zz h12) h13 rfl rfl (fun M14 C14 h14 f14 => ?_)
  have f14 : C14 = y_m14 := f14
  subst f14
  refine ⟨n + 11, (y_Bfr h12 (show z_fr y_m12 1409 0 = some 11 from by decide +kernel)), ?_⟩
  refine ⟨by rw [(y_Bln h14 (show z_ln y_m14 11 = 4 from by decide +kernel))]; exact y_in (by decide), ?_⟩
  intro M15 e15
  rw [y_zz h12] at e15
  have h15 := y_Bsar (j := 2) h14 e15 (rfl : y_m15 = z_sar y_m14 11 2 (some 20))
  intro x15 ex15; subst ex15
  rw [P_X11_init_25]
  refine ⟨fun hx => absurd hx (by decide), fun _ => ?_⟩
  refine ⟨y_rm (w := 10) h15 rfl rfl, ?_⟩
  intro M16 e16
  have h16 := y_Bnew h15 e16 (rfl : y_m16 = _)
  refine y_X9_init (y_zz h15) h16 rfl rfl (fun M17 C17 h17 f17 => ?_)
  have f17 : C17 = y_m17 := f17
  subst f17
  refine ⟨n + 11, (y_Bfr h15 (show z_fr y_m15 1409 0 = some 11 from by decide +kernel)), ?_⟩
  refine ⟨by rw [(y_Bln h17 (show z_ln y_m17 11 = 4 from by decide +kernel))]; exact y_in (by decide), ?_⟩
  intro M18 e18
  rw [y_zz h15] at e18
  have h18 := y_Bsar (j := 3) h17 e18 (rfl : y_m18 = z_sar y_m17 11 3 (some 24))
  intro x18 ex18; subst ex18
  rw [P_X11_init_25]
  refine ⟨fun _ => ?_, fun hx => absurd (by decide) hx⟩
  refine ⟨y_rm (w := 16) h18 rfl rfl, ?_⟩
  intro M19 e19
  have h19 := y_Bnew h18 e19 (rfl : y_m19 = _)
  rw [(y_Bfr h19 (show z_fr y_m19 1408 0 = some 1 from by decide +kernel)), (y_Bfr h19 (show z_fr y_m19 1409 0 = some 11 from by decide +kernel))]
  refine y_X8_init (y_zz h18) h19 rfl rfl (fun M20 C20 h20 f20 => ?_)
  have f20 : C20 = y_m20 := f20
  subst f20
  intro M21 e21
  have h21 := y_Bsfr h20 h18 e21 (rfl : y_m21 = z_sfr y_m20 1410 0 (some 28))
  refine ⟨y_rm (w := 19) h21 rfl rfl, ?_⟩
  intro M22 e22
  have h22 := y_Bnew h21 e22 (rfl : y_m22 = _)
  rw [(y_Bfr h22 (show z_fr y_m22 1408 0 = some 1 from by decide +kernel)), (y_Bfr h22 (show z_fr y_m22 1409 0 = some 11 from by decide +kernel))]
  refine y_X1_init (y_zz h21) h22 rfl rfl (fun M23 C23 h23 f23 => ?_)
  have f23 : C23 = y_m23 := f23
  subst f23
  intro M24 e24
  have h24 := y_Bsfr h23 h21 e24 (rfl : y_m24 = z_sfr y_m23 1411 0 (some 31))
  refine ⟨y_rm (w := 200) h24 rfl rfl, ?_⟩
  intro M25 e25
  have h25 := y_Bnwa h24 e25 (rfl : y_m25 = _)
  intro M26 e26
  have h26 := y_Bsfr h25 h24 e26 (rfl : y_m26 = z_sfr y_m25 1412 0 (some 39))
  refine ⟨y_rm (w := 95) h26 rfl rfl, ?_⟩
  intro M27 e27
  have h27 := y_Bnew h26 e27 (rfl : y_m27 = _)
  refine y_X12_init (y_zz h26) h27 rfl rfl (fun M28 C28 h28 f28 => ?_)
  have f28 : C28 = y_m28 := f28
  subst f28
  refine ⟨3, ?_⟩
  rw [P_X12_init_561]
  refine ⟨fun hx => absurd hx (by decide), fun _ => ?_⟩
  refine ⟨n + 41, (y_Bfr h28 (show z_fr y_m28 1537 40 = some 41 from y_f1537)), ?_⟩
  refine ⟨by rw [(y_Bln h28 (show z_ln y_m28 41 = 2 from y_l1537))]; exact y_in (by decide), ?_⟩
  intro M29 e29
  have h29 := y_Bsai (j := 0) h28 e29 (rfl : y_m29 = z_sai y_m28 41 0 5)
  refine ⟨n + 42, (y_Bfr h29 (show z_fr y_m29 1538 40 = some 42 from y_f1538)), ?_⟩
  refine ⟨by rw [(y_Bln h29 (show z_ln y_m29 42 = 2 from y_l1538))]; exact y_in (by decide), ?_⟩
  intro M30 e30
  have h30 := y_Bsai (j := 0) h29 e30 (rfl : y_m30 = z_sai y_m29 42 0 2)
  refine ⟨n + 43, (y_Bfr h30 (show z_fr y_m30 1539 40 = some 43 from y_f1539)), ?_⟩
  refine ⟨by rw [(y_Bln h30 (show z_ln y_m30 43 = 2 from y_l1539))]; exact y_in (by decide), ?_⟩
  intro M31 e31
  have h31 := y_Bsai (j := 0) h30 e31 (rfl : y_m31 = z_sai y_m30 43 0 8)
  refine ⟨n + 44, (y_Bfr h31 (show z_fr y_m31 1540 40 = some 44 from y_f1540)), ?_⟩
  refine ⟨by rw [(y_Bln h31 (show z_ln y_m31 44 = 2 from y_l1540))]; exact y_in (by decide), ?_⟩
  intro M32 e32
  have h32 := y_Bsai (j := 0) h31 e32 (rfl : y_m32 = z_sai y_m31 44 0 6)
  refine ⟨n + 84, (y_Bfr h32 (show z_fr y_m32 1607 40 = some 84 from y_f1607)), ?_⟩
  refine ⟨by rw [(y_Bln h32 (show z_ln y_m32 84 = 2 from y_l1607))]; exact y_in (by decide), ?_⟩
  intro M33 e33
  have h33 := y_Bsai (j := 0) h32 e33 (rfl : y_m33 = z_sai y_m32 84 0 160)
  refine ⟨n + 85, (y_Bfr h33 (show z_fr y_m33 1608 40 = some 85 from y_f1608)), ?_⟩
  refine ⟨by rw [(y_Bln h33 (show z_ln y_m33 85 = 2 from y_l1608))]; exact y_in (by decide), ?_⟩
  intro M34 e34
  have h34 := y_Bsai (j := 0) h33 e34 (rfl : y_m34 = z_sai y_m33 85 0 999999)
  refine ⟨n + 87, (y_Bfr h34 (show z_fr y_m34 1610 40 = some 87 from y_f1610)), ?_⟩
  refine ⟨by rw [(y_Bln h34 (show z_ln y_m34 87 = 2 from y_l1610))]; exact y_in (by decide), ?_⟩
  intro M35 e35
  have h35 := y_Bsai (j := 0) h34 e35 (rfl : y_m35 = z_sai y_m34 87 0 80)
  refine ⟨n + 88, (y_Bfr h35 (show z_fr y_m35 1611 40 = some 88 from y_f1611)), ?_⟩
  refine ⟨by rw [(y_Bln h35 (show z_ln y_m35 88 = 2 from y_l1611))]; exact y_in (by decide), ?_⟩
  intro M36 e36
  have h36 := y_Bsai (j := 0) h35 e36 (rfl : y_m36 = z_sai y_m35 88 0 20)
  refine ⟨n + 89, (y_Bfr h36 (show z_fr y_m36 1612 40 = some 89 from y_f1612)), ?_⟩
  refine ⟨by rw [(y_Bln h36 (show z_ln y_m36 89 = 2 from y_l1612))]; exact y_in (by decide), ?_⟩
  intro M37 e37
  have h37 := y_Bsai (j := 0) h36 e37 (rfl : y_m37 = z_sai y_m36 89 0 10)
  refine ⟨n + 90, (y_Bfr h37 (show z_fr y_m37 1613 40 = some 90 from y_f1613)), ?_⟩
  refine ⟨by rw [(y_Bln h37 (show z_ln y_m37 90 = 2 from y_l1613))]; exact y_in (by decide), ?_⟩
  intro M38 e38
  have h38 := y_Bsai (j := 0) h37 e38 (rfl : y_m38 = z_sai y_m37 90 0 10)
  refine ⟨n + 94, (y_Bfr h38 (show z_fr y_m38 1617 40 = some 94 from y_f1617)), ?_⟩
  refine ⟨by rw [(y_Bln h38 (show z_ln y_m38 94 = 2 from y_l1617))]; exact y_in (by decide), ?_⟩
  intro M39 e39
  have h39 := y_Bsai (j := 0) h38 e39 (rfl : y_m39 = z_sai y_m38 94 0 (-1))
  refine ⟨n + 102, (y_Bfr h39 (show z_fr y_m39 1625 40 = some 102 from y_f1625)), ?_⟩
  refine ⟨by rw [(y_Bln h39 (show z_ln y_m39 102 = 2 from y_l1625))]; exact y_in (by decide), ?_⟩
  intro M40 e40
  have h40 := y_Bsai (j := 0) h39 e40 (rfl : y_m40 = z_sai y_m39 102 0 (-1))
  intro xx ex; subst ex
  rw [P_X12_init_561]
  refine ⟨fun hx => absurd hx (by decide), fun _ => ?_⟩
  refine ⟨n + 41, (y_Bfr h40 (show z_fr y_m40 1537 40 = some 41 from y_f1537)), ?_⟩
  refine ⟨by rw [(y_Bln h40 (show z_ln y_m40 41 = 2 from y_l1537))]; exact y_in (by decide), ?_⟩
  intro M41 e41
  have h41 := y_Bsai (j := 1) h40 e41 (rfl : y_m41 = z_sai y_m40 41 1 5)
  refine ⟨n + 42, (y_Bfr h41 (show z_fr y_m41 1538 40 = some 42 from y_f1538)), ?_⟩
  refine ⟨by rw [(y_Bln h41 (show z_ln y_m41 42 = 2 from y_l1538))]; exact y_in (by decide), ?_⟩
  intro M42 e42
  have h42 := y_Bsai (j := 1) h41 e42 (rfl : y_m42 = z_sai y_m41 42 1 2)
  refine ⟨n + 43, (y_Bfr h42 (show z_fr y_m42 1539 40 = some 43 from y_f1539)), ?_⟩
  refine ⟨by rw [(y_Bln h42 (show z_ln y_m42 43 = 2 from y_l1539))]; exact y_in (by decide), ?_⟩
  intro M43 e43
  have h43 := y_Bsai (j := 1) h42 e43 (rfl : y_m43 = z_sai y_m42 43 1 8)
  refine ⟨n + 44, (y_Bfr h43 (show z_fr y_m43 1540 40 = some 44 from y_f1540)), ?_⟩
  refine ⟨by rw [(y_Bln h43 (show z_ln y_m43 44 = 2 from y_l1540))]; exact y_in (by decide), ?_⟩
  intro M44 e44
  have h44 := y_Bsai (j := 1) h43 e44 (rfl : y_m44 = z_sai y_m43 44 1 6)
  refine ⟨n + 84, (y_Bfr h44 (show z_fr y_m44 1607 40 = some 84 from y_f1607)), ?_⟩
  refine ⟨by rw [(y_Bln h44 (show z_ln y_m44 84 = 2 from y_l1607))]; exact y_in (by decide), ?_⟩
  intro M45 e45
  have h45 := y_Bsai (j := 1) h44 e45 (rfl : y_m45 = z_sai y_m44 84 1 160)
  refine ⟨n + 85, (y_Bfr h45 (show z_fr y_m45 1608 40 = some 85 from y_f1608)), ?_⟩
  refine ⟨by rw [(y_Bln h45 (show z_ln y_m45 85 = 2 from y_l1608))]; exact y_in (by decide), ?_⟩
  intro M46 e46
  have h46 := y_Bsai (j := 1) h45 e46 (rfl : y_m46 = z_sai y_m45 85 1 999999)
  refine ⟨n + 87, (y_Bfr h46 (show z_fr y_m46 1610 40 = some 87 from y_f1610)), ?_⟩
  refine ⟨by rw [(y_Bln h46 (show z_ln y_m46 87 = 2 from y_l1610))]; exact y_in (by decide), ?_⟩
  intro M47 e47
  have h47 := y_Bsai (j := 1) h46 e47 (rfl : y_m47 = z_sai y_m46 87 1 80)
  refine ⟨n + 88, (y_Bfr h47 (show z_fr y_m47 1611 40 = some 88 from y_f1611)), ?_⟩
  refine ⟨by rw [(y_Bln h47 (show z_ln y_m47 88 = 2 from y_l1611))]; exact y_in (by decide), ?_⟩
  intro M48 e48
  have h48 := y_Bsai (j := 1) h47 e48 (rfl : y_m48 = z_sai y_m47 88 1 20)
  refine ⟨n + 89, (y_Bfr h48 (show z_fr y_m48 1612 40 = some 89 from y_f1612)), ?_⟩
  refine ⟨by rw [(y_Bln h48 (show z_ln y_m48 89 = 2 from y_l1612))]; exact y_in (by decide), ?_⟩
  intro M49 e49
  have h49 := y_Bsai (j := 1) h48 e49 (rfl : y_m49 = z_sai y_m48 89 1 10)
  refine ⟨n + 90, (y_Bfr h49 (show z_fr y_m49 1613 40 = some 90 from y_f1613)), ?_⟩
  refine ⟨by rw [(y_Bln h49 (show z_ln y_m49 90 = 2 from y_l1613))]; exact y_in (by decide), ?_⟩
  intro M50 e50
  have h50 := y_Bsai (j := 1) h49 e50 (rfl : y_m50 = z_sai y_m49 90 1 10)
  refine ⟨n + 94, (y_Bfr h50 (show z_fr y_m50 1617 40 = some 94 from y_f1617)), ?_⟩
  refine ⟨by rw [(y_Bln h50 (show z_ln y_m50 94 = 2 from y_l1617))]; exact y_in (by decide), ?_⟩
  intro M51 e51
  have h51 := y_Bsai (j := 1) h50 e51 (rfl : y_m51 = z_sai y_m50 94 1 (-1))
  refine ⟨n + 102, (y_Bfr h51 (show z_fr y_m51 1625 40 = some 102 from y_f1625)), ?_⟩
  refine ⟨by rw [(y_Bln h51 (show z_ln y_m51 102 = 2 from y_l1625))]; exact y_in (by decide), ?_⟩
  intro M52 e52
  have h52 := y_Bsai (j := 1) h51 e52 (rfl : y_m52 = z_sai y_m51 102 1 (-1))
  intro xx ex; subst ex
  rw [P_X12_init_561]
  refine ⟨fun _ => ?_, fun hx => absurd (by decide) hx⟩
  refine ⟨n + 92, (y_Bfr h52 (show z_fr y_m52 1615 40 = some 92 from y_f1615)), ?_⟩
  refine ⟨by rw [(y_Bln h52 (show z_ln y_m52 92 = 2 from y_l1615))]; exact y_in (by decide), ?_⟩
  intro M53 e53
  have h53 := y_Bsai (j := 0) h52 e53 (rfl : y_m53 = z_sai y_m52 92 0 1)
  refine ⟨5, ?_⟩
  rw [P_X12_init_674]
  refine ⟨fun hx => absurd hx (by decide), fun _ => ?_⟩
  refine ⟨n + 68, (y_Bfr h53 (show z_fr y_m53 1588 40 = some 68 from y_f1588)), ?_⟩
  refine ⟨by rw [(y_Bln h53 (show z_ln y_m53 68 = 4 from y_l1588))]; exact y_in (by decide), ?_⟩
  intro M54 e54
  have h54 := y_Bsai (j := 0) h53 e54 (rfl : y_m54 = z_sai y_m53 68 0 40)
  intro xx ex; subst ex
  rw [P_X12_init_674]
  refine ⟨fun hx => absurd hx (by decide), fun _ => ?_⟩
  refine ⟨n + 68, (y_Bfr h54 (show z_fr y_m54 1588 40 = some 68 from y_f1588)), ?_⟩
  refine ⟨by rw [(y_Bln h54 (show z_ln y_m54 68 = 4 from y_l1588))]; exact y_in (by decide), ?_⟩
  intro M55 e55
  have h55 := y_Bsai (j := 1) h54 e55 (rfl : y_m55 = z_sai y_m54 68 1 40)
  intro xx ex; subst ex
  rw [P_X12_init_674]
  refine ⟨fun hx => absurd hx (by decide), fun _ => ?_⟩
  refine ⟨n + 68, (y_Bfr h55 (show z_fr y_m55 1588 40 = some 68 from y_f1588)), ?_⟩
  refine ⟨by rw [(y_Bln h55 (show z_ln y_m55 68 = 4 from y_l1588))]; exact y_in (by decide), ?_⟩
  intro M56 e56
  have h56 := y_Bsai (j := 2) h55 e56 (rfl : y_m56 = z_sai y_m55 68 2 40)
  intro xx ex; subst ex
  rw [P_X12_init_674]
  refine ⟨fun hx => absurd hx (by decide), fun _ => ?_⟩
  refine ⟨n + 68, (y_Bfr h56 (show z_fr y_m56 1588 40 = some 68 from y_f1588)), ?_⟩
  refine ⟨by rw [(y_Bln h56 (show z_ln y_m56 68 = 4 from y_l1588))]; exact y_in (by decide), ?_⟩
  intro M57 e57
  have h57 := y_Bsai (j := 3) h56 e57 (rfl : y_m57 = z_sai y_m56 68 3 40)
  intro xx ex; subst ex
  rw [P_X12_init_674]
  refine ⟨fun _ => ?_, fun hx => absurd (by decide) hx⟩
  refine ⟨y_rm (w := 1) h57 rfl rfl, ?_⟩
  intro M58 e58
  have h58 := y_Bnwa h57 e58 (rfl : y_m58 = _)
  have z1 := y_zz h26; have z2 := y_zz h57
  rw [z1, z2]
  exact k _ h58
