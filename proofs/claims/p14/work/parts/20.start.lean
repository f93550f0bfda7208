/-! ===== FROM THE LAW'S ENTRY TO ITS LOOP: the closed memory y_C ===== -/
theorem y_in {i : Int32} {n : Nat} (h : (!(decide (i < 0)) && decide (i.toNatClampNeg < n)) = true) : vp_in i n := by
  rw [Bool.and_eq_true, Bool.not_eq_true', decide_eq_false_iff_not, decide_eq_true_eq] at h
  exact fun q => q.elim h.1 (fun q => Nat.not_le.mpr h.2 q)
set_option maxRecDepth 100000 in
def c_X12_init (a s : Nat) (C : z_Mem) : z_Mem := (z_sfr (z_nwa (z_sfr (z_nwa (z_sfr (z_nwa (z_sfr (z_nwa (z_sfr (z_nwa (z_sfr (z_nwa (z_sfr (z_nwa (z_sfr (z_nwa (z_sfr (z_nwa (z_sfr (z_nwa (z_sfr (z_nwa (z_sfr (z_nwa (z_sfr (z_nwa (z_sfr (z_nwa (z_sfr (z_nwa (z_sfr (z_nwa (z_sfr (z_nwa (z_sfr (z_nwa (z_sfr (z_nwa (z_sfr (z_nwa (z_sfr (z_nwa (z_sfr (z_nwa (z_sfr (z_nwa (z_sfr (z_nwa (z_sfr (z_nwa (z_sfr (z_nwa (z_sfr (z_nwa (z_sfr (z_nwa (z_sfr (z_nwa (z_sfr (z_nwa (z_sfr (z_nwa (z_sfr (z_nwa (z_sfr (z_nwa (z_sfr (z_nwa (z_sfr (z_nwa (z_sfr (z_nwa (z_sfr (z_nwa (z_sfr (z_nwa (z_sfi (z_sfi (z_sfr (z_nwa (z_sfr (z_nwa (z_sfr (z_nwa (z_sfi (z_sfi (z_sfi (z_sfi (z_sfr (z_nwa (z_sfr (z_nwa (z_sfr (z_nwa (z_sfi (z_sfr (z_nwa (z_sfr (z_nwa (z_sfr (z_nwa (z_sfr (z_nwa (z_sfr (z_nwa (z_sfr (z_nwa (z_sfr (z_nwa (z_sfr (z_nwa (z_sfr (z_nwa (z_sfr (z_nwa (z_sfr (z_nwa (z_sfr (z_nwa (z_sfr (z_nwa (z_sfr (z_nwa (z_sfr (z_nwa (z_sfr (z_nwa (z_sfr (z_nwa (z_sfr (z_nwa (z_sfr (z_nwa (z_sfr (z_nwa (z_sfr (z_nwa (z_sfr (z_nwa C 20 2) 1537 a (some (s))) 20 2) 1538 a (some (s + 1))) 20 2) 1539 a (some (s + 2))) 20 2) 1540 a (some (s + 3))) 21 2) 1541 a (some (s + 4))) 20 2) 1542 a (some (s + 5))) 20 2) 1543 a (some (s + 6))) 20 2) 1544 a (some (s + 7))) 20 2) 1545 a (some (s + 8))) 20 60) 1546 a (some (s + 9))) 20 2) 1547 a (some (s + 10))) 20 1300) 1548 a (some (s + 11))) 20 1300) 1549 a (some (s + 12))) 20 1300) 1550 a (some (s + 13))) 20 1300) 1552 a (some (s + 14))) 20 1300) 1553 a (some (s + 15))) 20 3600) 1555 a (some (s + 16))) 20 3600) 1556 a (some (s + 17))) 20 3600) 1557 a (some (s + 18))) 20 3600) 1558 a (some (s + 19))) 20 54000) 1560 a (some (s + 20))) 21 10) 1565 a (some (s + 21))) 1567 a (-1)) 21 400) 1569 a (some (s + 22))) 21 800) 1570 a (some (s + 23))) 20 4) 1571 a (some (s + 24))) 1572 a (-1)) 1574 a (-1)) 1575 a (-1)) 1578 a (-1)) 20 4) 1586 a (some (s + 25))) 20 4) 1587 a (some (s + 26))) 20 4) 1588 a (some (s + 27))) 1589 a 100) 1590 a 3) 21 800) 1591 a (some (s + 28))) 20 800) 1592 a (some (s + 29))) 20 400) 1593 a (some (s + 30))) 20 400) 1594 a (some (s + 31))) 20 400) 1595 a (some (s + 32))) 20 400) 1596 a (some (s + 33))) 20 400) 1597 a (some (s + 34))) 20 400) 1598 a (some (s + 35))) 20 400) 1599 a (some (s + 36))) 20 400) 1600 a (some (s + 37))) 21 400) 1601 a (some (s + 38))) 21 400) 1602 a (some (s + 39))) 21 400) 1603 a (some (s + 40))) 20 400) 1604 a (some (s + 41))) 20 400) 1605 a (some (s + 42))) 20 2) 1607 a (some (s + 43))) 20 2) 1608 a (some (s + 44))) 20 2) 1609 a (some (s + 45))) 20 2) 1610 a (some (s + 46))) 20 2) 1611 a (some (s + 47))) 20 2) 1612 a (some (s + 48))) 20 2) 1613 a (some (s + 49))) 21 2) 1614 a (some (s + 50))) 21 2) 1615 a (some (s + 51))) 20 2) 1616 a (some (s + 52))) 20 2) 1617 a (some (s + 53))) 20 2) 1618 a (some (s + 54))) 20 2) 1619 a (some (s + 55))) 20 2) 1620 a (some (s + 56))) 20 16) 1621 a (some (s + 57))) 20 2) 1622 a (some (s + 58))) 20 2) 1623 a (some (s + 59))) 20 2) 1624 a (some (s + 60))) 20 2) 1625 a (some (s + 61))) 20 2) 1626 a (some (s + 62))) 20 2) 1627 a (some (s + 63))) 20 2) 1628 a (some (s + 64))) 20 6) 1629 a (some (s + 65)))
set_option maxRecDepth 100000 in
set_option maxHeartbeats 4000000 in
theorem y_X12_init {n a s b r1 k1 r2 k2 : Nat} {M C : z_Mem} {Post : z_Mem → Prop} (hb : b = n + a) (h : y_B n M C r1 k1 r2 k2 s) (hr : Nat.ble (k1 + 66) r1 = true) (hq : Nat.ble (k2 + 83070) r2 = true) (k : ∀ M1 C1, y_B n M1 C1 r1 (k1 + 66) r2 (k2 + 83070) (s + 66) → C1 = c_X12_init a s C → ∃ m, P_X12_init_561 (n + a) Post m 0 M1) : P_X12_init b M Post := by
  subst hb
  have hr := Nat.le_of_ble_eq_true hr
  have hq := Nat.le_of_ble_eq_true hq
  unfold P_X12_init
  refine ⟨y_rm (w := 2) h (Nat.ble_eq_true_of_le (by omega)) (Nat.ble_eq_true_of_le (by omega)), ?_⟩
  intro M_63 e1
  obtain ⟨C1, f1⟩ : ∃ c, c = z_nwa C 20 2 := ⟨_, rfl⟩
  have h1 := y_Bnwa h e1 f1
  have q1 := f1.trans (congrArg (fun c => z_nwa c 20 2) (Eq.refl C))
  intro M_64 e2
  obtain ⟨C2, f2⟩ : ∃ c, c = z_sfr C1 1537 a (some (s)) := ⟨_, rfl⟩
  have h2 := y_Bsfr h1 h e2 f2
  have q2 := f2.trans (congrArg (fun c => z_sfr c 1537 a (some (s))) q1)
  refine ⟨y_rm (w := 2) h2 (Nat.ble_eq_true_of_le (by omega)) (Nat.ble_eq_true_of_le (by omega)), ?_⟩
  intro M_66 e3
  obtain ⟨C3, f3⟩ : ∃ c, c = z_nwa C2 20 2 := ⟨_, rfl⟩
  have h3 := y_Bnwa h2 e3 f3
  have q3 := f3.trans (congrArg (fun c => z_nwa c 20 2) q2)
  intro M_67 e4
  obtain ⟨C4, f4⟩ : ∃ c, c = z_sfr C3 1538 a (some (s + 1)) := ⟨_, rfl⟩
  have h4 := y_Bsfr h3 h2 e4 f4
  have q4 := f4.trans (congrArg (fun c => z_sfr c 1538 a (some (s + 1))) q3)
  refine ⟨y_rm (w := 2) h4 (Nat.ble_eq_true_of_le (by omega)) (Nat.ble_eq_true_of_le (by omega)), ?_⟩
  intro M_69 e5
  obtain ⟨C5, f5⟩ : ∃ c, c = z_nwa C4 20 2 := ⟨_, rfl⟩
  have h5 := y_Bnwa h4 e5 f5
  have q5 := f5.trans (congrArg (fun c => z_nwa c 20 2) q4)
  intro M_70 e6
  obtain ⟨C6, f6⟩ : ∃ c, c = z_sfr C5 1539 a (some (s + 2)) := ⟨_, rfl⟩
  have h6 := y_Bsfr h5 h4 e6 f6
  have q6 := f6.trans (congrArg (fun c => z_sfr c 1539 a (some (s + 2))) q5)
  refine ⟨y_rm (w := 2) h6 (Nat.ble_eq_true_of_le (by omega)) (Nat.ble_eq_true_of_le (by omega)), ?_⟩
  intro M_72 e7
  obtain ⟨C7, f7⟩ : ∃ c, c = z_nwa C6 20 2 := ⟨_, rfl⟩
  have h7 := y_Bnwa h6 e7 f7
  have q7 := f7.trans (congrArg (fun c => z_nwa c 20 2) q6)
  intro M_73 e8
  obtain ⟨C8, f8⟩ : ∃ c, c = z_sfr C7 1540 a (some (s + 3)) := ⟨_, rfl⟩
  have h8 := y_Bsfr h7 h6 e8 f8
  have q8 := f8.trans (congrArg (fun c => z_sfr c 1540 a (some (s + 3))) q7)
  refine ⟨y_rm (w := 2) h8 (Nat.ble_eq_true_of_le (by omega)) (Nat.ble_eq_true_of_le (by omega)), ?_⟩
  intro M_75 e9
  obtain ⟨C9, f9⟩ : ∃ c, c = z_nwa C8 21 2 := ⟨_, rfl⟩
  have h9 := y_Bnwa h8 e9 f9
  have q9 := f9.trans (congrArg (fun c => z_nwa c 21 2) q8)
  intro M_76 e10
  obtain ⟨C10, f10⟩ : ∃ c, c = z_sfr C9 1541 a (some (s + 4)) := ⟨_, rfl⟩
  have h10 := y_Bsfr h9 h8 e10 f10
  have q10 := f10.trans (congrArg (fun c => z_sfr c 1541 a (some (s + 4))) q9)
  refine ⟨y_rm (w := 2) h10 (Nat.ble_eq_true_of_le (by omega)) (Nat.ble_eq_true_of_le (by omega)), ?_⟩
  intro M_78 e11
  obtain ⟨C11, f11⟩ : ∃ c, c = z_nwa C10 20 2 := ⟨_, rfl⟩
  have h11 := y_Bnwa h10 e11 f11
  have q11 := f11.trans (congrArg (fun c => z_nwa c 20 2) q10)
  intro M_79 e12
  obtain ⟨C12, f12⟩ : ∃ c, c = z_sfr C11 1542 a (some (s + 5)) := ⟨_, rfl⟩
  have h12 := y_Bsfr h11 h10 e12 f12
  have q12 := f12.trans (congrArg (fun c => z_sfr c 1542 a (some (s + 5))) q11)
  refine ⟨y_rm (w := 2) h12 (Nat.ble_eq_true_of_le (by omega)) (Nat.ble_eq_true_of_le (by omega)), ?_⟩
  intro M_81 e13
  obtain ⟨C13, f13⟩ : ∃ c, c = z_nwa C12 20 2 := ⟨_, rfl⟩
  have h13 := y_Bnwa h12 e13 f13
  have q13 := f13.trans (congrArg (fun c => z_nwa c 20 2) q12)
  intro M_82 e14
  obtain ⟨C14, f14⟩ : ∃ c, c = z_sfr C13 1543 a (some (s + 6)) := ⟨_, rfl⟩
  have h14 := y_Bsfr h13 h12 e14 f14
  have q14 := f14.trans (congrArg (fun c => z_sfr c 1543 a (some (s + 6))) q13)
  refine ⟨y_rm (w := 2) h14 (Nat.ble_eq_true_of_le (by omega)) (Nat.ble_eq_true_of_le (by omega)), ?_⟩
  intro M_84 e15
  obtain ⟨C15, f15⟩ : ∃ c, c = z_nwa C14 20 2 := ⟨_, rfl⟩
  have h15 := y_Bnwa h14 e15 f15
  have q15 := f15.trans (congrArg (fun c => z_nwa c 20 2) q14)
  intro M_85 e16
  obtain ⟨C16, f16⟩ : ∃ c, c = z_sfr C15 1544 a (some (s + 7)) := ⟨_, rfl⟩
  have h16 := y_Bsfr h15 h14 e16 f16
  have q16 := f16.trans (congrArg (fun c => z_sfr c 1544 a (some (s + 7))) q15)
  refine ⟨y_rm (w := 2) h16 (Nat.ble_eq_true_of_le (by omega)) (Nat.ble_eq_true_of_le (by omega)), ?_⟩
  intro M_87 e17
  obtain ⟨C17, f17⟩ : ∃ c, c = z_nwa C16 20 2 := ⟨_, rfl⟩
  have h17 := y_Bnwa h16 e17 f17
  have q17 := f17.trans (congrArg (fun c => z_nwa c 20 2) q16)
  intro M_88 e18
  obtain ⟨C18, f18⟩ : ∃ c, c = z_sfr C17 1545 a (some (s + 8)) := ⟨_, rfl⟩
  have h18 := y_Bsfr h17 h16 e18 f18
  have q18 := f18.trans (congrArg (fun c => z_sfr c 1545 a (some (s + 8))) q17)
  refine ⟨y_rm (w := 60) h18 (Nat.ble_eq_true_of_le (by omega)) (Nat.ble_eq_true_of_le (by omega)), ?_⟩
  intro M_90 e19
  obtain ⟨C19, f19⟩ : ∃ c, c = z_nwa C18 20 60 := ⟨_, rfl⟩
  have h19 := y_Bnwa h18 e19 f19
  have q19 := f19.trans (congrArg (fun c => z_nwa c 20 60) q18)
  intro M_91 e20
  obtain ⟨C20, f20⟩ : ∃ c, c = z_sfr C19 1546 a (some (s + 9)) := ⟨_, rfl⟩
  have h20 := y_Bsfr h19 h18 e20 f20
  have q20 := f20.trans (congrArg (fun c => z_sfr c 1546 a (some (s + 9))) q19)
  refine ⟨y_rm (w := 2) h20 (Nat.ble_eq_true_of_le (by omega)) (Nat.ble_eq_true_of_le (by omega)), ?_⟩
  intro M_93 e21
  obtain ⟨C21, f21⟩ : ∃ c, c = z_nwa C20 20 2 := ⟨_, rfl⟩
  have h21 := y_Bnwa h20 e21 f21
  have q21 := f21.trans (congrArg (fun c => z_nwa c 20 2) q20)
  intro M_94 e22
  obtain ⟨C22, f22⟩ : ∃ c, c = z_sfr C21 1547 a (some (s + 10)) := ⟨_, rfl⟩
  have h22 := y_Bsfr h21 h20 e22 f22
  have q22 := f22.trans (congrArg (fun c => z_sfr c 1547 a (some (s + 10))) q21)
  refine ⟨y_rm (w := 1300) h22 (Nat.ble_eq_true_of_le (by omega)) (Nat.ble_eq_true_of_le (by omega)), ?_⟩
  intro M_96 e23
  obtain ⟨C23, f23⟩ : ∃ c, c = z_nwa C22 20 1300 := ⟨_, rfl⟩
  have h23 := y_Bnwa h22 e23 f23
  have q23 := f23.trans (congrArg (fun c => z_nwa c 20 1300) q22)
  intro M_97 e24
  obtain ⟨C24, f24⟩ : ∃ c, c = z_sfr C23 1548 a (some (s + 11)) := ⟨_, rfl⟩
  have h24 := y_Bsfr h23 h22 e24 f24
  have q24 := f24.trans (congrArg (fun c => z_sfr c 1548 a (some (s + 11))) q23)
  refine ⟨y_rm (w := 1300) h24 (Nat.ble_eq_true_of_le (by omega)) (Nat.ble_eq_true_of_le (by omega)), ?_⟩
  intro M_99 e25
  obtain ⟨C25, f25⟩ : ∃ c, c = z_nwa C24 20 1300 := ⟨_, rfl⟩
  have h25 := y_Bnwa h24 e25 f25
  have q25 := f25.trans (congrArg (fun c => z_nwa c 20 1300) q24)
  intro M_100 e26
  obtain ⟨C26, f26⟩ : ∃ c, c = z_sfr C25 1549 a (some (s + 12)) := ⟨_, rfl⟩
  have h26 := y_Bsfr h25 h24 e26 f26
  have q26 := f26.trans (congrArg (fun c => z_sfr c 1549 a (some (s + 12))) q25)
  refine ⟨y_rm (w := 1300) h26 (Nat.ble_eq_true_of_le (by omega)) (Nat.ble_eq_true_of_le (by omega)), ?_⟩
  intro M_102 e27
  obtain ⟨C27, f27⟩ : ∃ c, c = z_nwa C26 20 1300 := ⟨_, rfl⟩
  have h27 := y_Bnwa h26 e27 f27
  have q27 := f27.trans (congrArg (fun c => z_nwa c 20 1300) q26)
  intro M_103 e28
  obtain ⟨C28, f28⟩ : ∃ c, c = z_sfr C27 1550 a (some (s + 13)) := ⟨_, rfl⟩
  have h28 := y_Bsfr h27 h26 e28 f28
  have q28 := f28.trans (congrArg (fun c => z_sfr c 1550 a (some (s + 13))) q27)
  refine ⟨y_rm (w := 1300) h28 (Nat.ble_eq_true_of_le (by omega)) (Nat.ble_eq_true_of_le (by omega)), ?_⟩
  intro M_105 e29
  obtain ⟨C29, f29⟩ : ∃ c, c = z_nwa C28 20 1300 := ⟨_, rfl⟩
  have h29 := y_Bnwa h28 e29 f29
  have q29 := f29.trans (congrArg (fun c => z_nwa c 20 1300) q28)
  intro M_106 e30
  obtain ⟨C30, f30⟩ : ∃ c, c = z_sfr C29 1552 a (some (s + 14)) := ⟨_, rfl⟩
  have h30 := y_Bsfr h29 h28 e30 f30
  have q30 := f30.trans (congrArg (fun c => z_sfr c 1552 a (some (s + 14))) q29)
  refine ⟨y_rm (w := 1300) h30 (Nat.ble_eq_true_of_le (by omega)) (Nat.ble_eq_true_of_le (by omega)), ?_⟩
  intro M_108 e31
  obtain ⟨C31, f31⟩ : ∃ c, c = z_nwa C30 20 1300 := ⟨_, rfl⟩
  have h31 := y_Bnwa h30 e31 f31
  have q31 := f31.trans (congrArg (fun c => z_nwa c 20 1300) q30)
  intro M_109 e32
  obtain ⟨C32, f32⟩ : ∃ c, c = z_sfr C31 1553 a (some (s + 15)) := ⟨_, rfl⟩
  have h32 := y_Bsfr h31 h30 e32 f32
  have q32 := f32.trans (congrArg (fun c => z_sfr c 1553 a (some (s + 15))) q31)
  refine ⟨y_rm (w := 3600) h32 (Nat.ble_eq_true_of_le (by omega)) (Nat.ble_eq_true_of_le (by omega)), ?_⟩
  intro M_111 e33
  obtain ⟨C33, f33⟩ : ∃ c, c = z_nwa C32 20 3600 := ⟨_, rfl⟩
  have h33 := y_Bnwa h32 e33 f33
  have q33 := f33.trans (congrArg (fun c => z_nwa c 20 3600) q32)
  intro M_112 e34
  obtain ⟨C34, f34⟩ : ∃ c, c = z_sfr C33 1555 a (some (s + 16)) := ⟨_, rfl⟩
  have h34 := y_Bsfr h33 h32 e34 f34
  have q34 := f34.trans (congrArg (fun c => z_sfr c 1555 a (some (s + 16))) q33)
  refine ⟨y_rm (w := 3600) h34 (Nat.ble_eq_true_of_le (by omega)) (Nat.ble_eq_true_of_le (by omega)), ?_⟩
  intro M_114 e35
  obtain ⟨C35, f35⟩ : ∃ c, c = z_nwa C34 20 3600 := ⟨_, rfl⟩
  have h35 := y_Bnwa h34 e35 f35
  have q35 := f35.trans (congrArg (fun c => z_nwa c 20 3600) q34)
  intro M_115 e36
  obtain ⟨C36, f36⟩ : ∃ c, c = z_sfr C35 1556 a (some (s + 17)) := ⟨_, rfl⟩
  have h36 := y_Bsfr h35 h34 e36 f36
  have q36 := f36.trans (congrArg (fun c => z_sfr c 1556 a (some (s + 17))) q35)
  refine ⟨y_rm (w := 3600) h36 (Nat.ble_eq_true_of_le (by omega)) (Nat.ble_eq_true_of_le (by omega)), ?_⟩
  intro M_117 e37
  obtain ⟨C37, f37⟩ : ∃ c, c = z_nwa C36 20 3600 := ⟨_, rfl⟩
  have h37 := y_Bnwa h36 e37 f37
  have q37 := f37.trans (congrArg (fun c => z_nwa c 20 3600) q36)
  intro M_118 e38
  obtain ⟨C38, f38⟩ : ∃ c, c = z_sfr C37 1557 a (some (s + 18)) := ⟨_, rfl⟩
  have h38 := y_Bsfr h37 h36 e38 f38
  have q38 := f38.trans (congrArg (fun c => z_sfr c 1557 a (some (s + 18))) q37)
  refine ⟨y_rm (w := 3600) h38 (Nat.ble_eq_true_of_le (by omega)) (Nat.ble_eq_true_of_le (by omega)), ?_⟩
  intro M_120 e39
  obtain ⟨C39, f39⟩ : ∃ c, c = z_nwa C38 20 3600 := ⟨_, rfl⟩
  have h39 := y_Bnwa h38 e39 f39
  have q39 := f39.trans (congrArg (fun c => z_nwa c 20 3600) q38)
  intro M_121 e40
  obtain ⟨C40, f40⟩ : ∃ c, c = z_sfr C39 1558 a (some (s + 19)) := ⟨_, rfl⟩
  have h40 := y_Bsfr h39 h38 e40 f40
  have q40 := f40.trans (congrArg (fun c => z_sfr c 1558 a (some (s + 19))) q39)
  refine ⟨y_rm (w := 54000) h40 (Nat.ble_eq_true_of_le (by omega)) (Nat.ble_eq_true_of_le (by omega)), ?_⟩
  intro M_123 e41
  obtain ⟨C41, f41⟩ : ∃ c, c = z_nwa C40 20 54000 := ⟨_, rfl⟩
  have h41 := y_Bnwa h40 e41 f41
  have q41 := f41.trans (congrArg (fun c => z_nwa c 20 54000) q40)
  intro M_124 e42
  obtain ⟨C42, f42⟩ : ∃ c, c = z_sfr C41 1560 a (some (s + 20)) := ⟨_, rfl⟩
  have h42 := y_Bsfr h41 h40 e42 f42
  have q42 := f42.trans (congrArg (fun c => z_sfr c 1560 a (some (s + 20))) q41)
  refine ⟨y_rm (w := 10) h42 (Nat.ble_eq_true_of_le (by omega)) (Nat.ble_eq_true_of_le (by omega)), ?_⟩
  intro M_126 e43
  obtain ⟨C43, f43⟩ : ∃ c, c = z_nwa C42 21 10 := ⟨_, rfl⟩
  have h43 := y_Bnwa h42 e43 f43
  have q43 := f43.trans (congrArg (fun c => z_nwa c 21 10) q42)
  intro M_127 e44
  obtain ⟨C44, f44⟩ : ∃ c, c = z_sfr C43 1565 a (some (s + 21)) := ⟨_, rfl⟩
  have h44 := y_Bsfr h43 h42 e44 f44
  have q44 := f44.trans (congrArg (fun c => z_sfr c 1565 a (some (s + 21))) q43)
  intro M_128 e45
  obtain ⟨C45, f45⟩ : ∃ c, c = z_sfi C44 1567 a (-1) := ⟨_, rfl⟩
  have h45 := y_Bsfi h44 e45 f45
  have q45 := f45.trans (congrArg (fun c => z_sfi c 1567 a (-1)) q44)
  refine ⟨y_rm (w := 400) h45 (Nat.ble_eq_true_of_le (by omega)) (Nat.ble_eq_true_of_le (by omega)), ?_⟩
  intro M_130 e46
  obtain ⟨C46, f46⟩ : ∃ c, c = z_nwa C45 21 400 := ⟨_, rfl⟩
  have h46 := y_Bnwa h45 e46 f46
  have q46 := f46.trans (congrArg (fun c => z_nwa c 21 400) q45)
  intro M_131 e47
  obtain ⟨C47, f47⟩ : ∃ c, c = z_sfr C46 1569 a (some (s + 22)) := ⟨_, rfl⟩
  have h47 := y_Bsfr h46 h45 e47 f47
  have q47 := f47.trans (congrArg (fun c => z_sfr c 1569 a (some (s + 22))) q46)
  refine ⟨y_rm (w := 800) h47 (Nat.ble_eq_true_of_le (by omega)) (Nat.ble_eq_true_of_le (by omega)), ?_⟩
  intro M_133 e48
  obtain ⟨C48, f48⟩ : ∃ c, c = z_nwa C47 21 800 := ⟨_, rfl⟩
  have h48 := y_Bnwa h47 e48 f48
  have q48 := f48.trans (congrArg (fun c => z_nwa c 21 800) q47)
  intro M_134 e49
  obtain ⟨C49, f49⟩ : ∃ c, c = z_sfr C48 1570 a (some (s + 23)) := ⟨_, rfl⟩
  have h49 := y_Bsfr h48 h47 e49 f49
  have q49 := f49.trans (congrArg (fun c => z_sfr c 1570 a (some (s + 23))) q48)
  refine ⟨y_rm (w := 4) h49 (Nat.ble_eq_true_of_le (by omega)) (Nat.ble_eq_true_of_le (by omega)), ?_⟩
  intro M_136 e50
  obtain ⟨C50, f50⟩ : ∃ c, c = z_nwa C49 20 4 := ⟨_, rfl⟩
  have h50 := y_Bnwa h49 e50 f50
  have q50 := f50.trans (congrArg (fun c => z_nwa c 20 4) q49)
  intro M_137 e51
  obtain ⟨C51, f51⟩ : ∃ c, c = z_sfr C50 1571 a (some (s + 24)) := ⟨_, rfl⟩
  have h51 := y_Bsfr h50 h49 e51 f51
  have q51 := f51.trans (congrArg (fun c => z_sfr c 1571 a (some (s + 24))) q50)
  intro M_138 e52
  obtain ⟨C52, f52⟩ : ∃ c, c = z_sfi C51 1572 a (-1) := ⟨_, rfl⟩
  have h52 := y_Bsfi h51 e52 f52
  have q52 := f52.trans (congrArg (fun c => z_sfi c 1572 a (-1)) q51)
  intro M_139 e53
  obtain ⟨C53, f53⟩ : ∃ c, c = z_sfi C52 1574 a (-1) := ⟨_, rfl⟩
  have h53 := y_Bsfi h52 e53 f53
  have q53 := f53.trans (congrArg (fun c => z_sfi c 1574 a (-1)) q52)
  intro M_140 e54
  obtain ⟨C54, f54⟩ : ∃ c, c = z_sfi C53 1575 a (-1) := ⟨_, rfl⟩
  have h54 := y_Bsfi h53 e54 f54
  have q54 := f54.trans (congrArg (fun c => z_sfi c 1575 a (-1)) q53)
  intro M_141 e55
  obtain ⟨C55, f55⟩ : ∃ c, c = z_sfi C54 1578 a (-1) := ⟨_, rfl⟩
  have h55 := y_Bsfi h54 e55 f55
  have q55 := f55.trans (congrArg (fun c => z_sfi c 1578 a (-1)) q54)
  refine ⟨y_rm (w := 4) h55 (Nat.ble_eq_true_of_le (by omega)) (Nat.ble_eq_true_of_le (by omega)), ?_⟩
  intro M_143 e56
  obtain ⟨C56, f56⟩ : ∃ c, c = z_nwa C55 20 4 := ⟨_, rfl⟩
  have h56 := y_Bnwa h55 e56 f56
  have q56 := f56.trans (congrArg (fun c => z_nwa c 20 4) q55)
  intro M_144 e57
  obtain ⟨C57, f57⟩ : ∃ c, c = z_sfr C56 1586 a (some (s + 25)) := ⟨_, rfl⟩
  have h57 := y_Bsfr h56 h55 e57 f57
  have q57 := f57.trans (congrArg (fun c => z_sfr c 1586 a (some (s + 25))) q56)
  refine ⟨y_rm (w := 4) h57 (Nat.ble_eq_true_of_le (by omega)) (Nat.ble_eq_true_of_le (by omega)), ?_⟩
  intro M_146 e58
  obtain ⟨C58, f58⟩ : ∃ c, c = z_nwa C57 20 4 := ⟨_, rfl⟩
  have h58 := y_Bnwa h57 e58 f58
  have q58 := f58.trans (congrArg (fun c => z_nwa c 20 4) q57)
  intro M_147 e59
  obtain ⟨C59, f59⟩ : ∃ c, c = z_sfr C58 1587 a (some (s + 26)) := ⟨_, rfl⟩
  have h59 := y_Bsfr h58 h57 e59 f59
  have q59 := f59.trans (congrArg (fun c => z_sfr c 1587 a (some (s + 26))) q58)
  refine ⟨y_rm (w := 4) h59 (Nat.ble_eq_true_of_le (by omega)) (Nat.ble_eq_true_of_le (by omega)), ?_⟩
  intro M_149 e60
  obtain ⟨C60, f60⟩ : ∃ c, c = z_nwa C59 20 4 := ⟨_, rfl⟩
  have h60 := y_Bnwa h59 e60 f60
  have q60 := f60.trans (congrArg (fun c => z_nwa c 20 4) q59)
  intro M_150 e61
  obtain ⟨C61, f61⟩ : ∃ c, c = z_sfr C60 1588 a (some (s + 27)) := ⟨_, rfl⟩
  have h61 := y_Bsfr h60 h59 e61 f61
  have q61 := f61.trans (congrArg (fun c => z_sfr c 1588 a (some (s + 27))) q60)
  intro M_151 e62
  obtain ⟨C62, f62⟩ : ∃ c, c = z_sfi C61 1589 a 100 := ⟨_, rfl⟩
  have h62 := y_Bsfi h61 e62 f62
  have q62 := f62.trans (congrArg (fun c => z_sfi c 1589 a 100) q61)
  intro M_152 e63
  obtain ⟨C63, f63⟩ : ∃ c, c = z_sfi C62 1590 a 3 := ⟨_, rfl⟩
  have h63 := y_Bsfi h62 e63 f63
  have q63 := f63.trans (congrArg (fun c => z_sfi c 1590 a 3) q62)
  refine ⟨y_rm (w := 800) h63 (Nat.ble_eq_true_of_le (by omega)) (Nat.ble_eq_true_of_le (by omega)), ?_⟩
  intro M_154 e64
  obtain ⟨C64, f64⟩ : ∃ c, c = z_nwa C63 21 800 := ⟨_, rfl⟩
  have h64 := y_Bnwa h63 e64 f64
  have q64 := f64.trans (congrArg (fun c => z_nwa c 21 800) q63)
  intro M_155 e65
  obtain ⟨C65, f65⟩ : ∃ c, c = z_sfr C64 1591 a (some (s + 28)) := ⟨_, rfl⟩
  have h65 := y_Bsfr h64 h63 e65 f65
  have q65 := f65.trans (congrArg (fun c => z_sfr c 1591 a (some (s + 28))) q64)
  refine ⟨y_rm (w := 800) h65 (Nat.ble_eq_true_of_le (by omega)) (Nat.ble_eq_true_of_le (by omega)), ?_⟩
  intro M_157 e66
  obtain ⟨C66, f66⟩ : ∃ c, c = z_nwa C65 20 800 := ⟨_, rfl⟩
  have h66 := y_Bnwa h65 e66 f66
  have q66 := f66.trans (congrArg (fun c => z_nwa c 20 800) q65)
  intro M_158 e67
  obtain ⟨C67, f67⟩ : ∃ c, c = z_sfr C66 1592 a (some (s + 29)) := ⟨_, rfl⟩
  have h67 := y_Bsfr h66 h65 e67 f67
  have q67 := f67.trans (congrArg (fun c => z_sfr c 1592 a (some (s + 29))) q66)
  refine ⟨y_rm (w := 400) h67 (Nat.ble_eq_true_of_le (by omega)) (Nat.ble_eq_true_of_le (by omega)), ?_⟩
  intro M_160 e68
  obtain ⟨C68, f68⟩ : ∃ c, c = z_nwa C67 20 400 := ⟨_, rfl⟩
  have h68 := y_Bnwa h67 e68 f68
  have q68 := f68.trans (congrArg (fun c => z_nwa c 20 400) q67)
  intro M_161 e69
  obtain ⟨C69, f69⟩ : ∃ c, c = z_sfr C68 1593 a (some (s + 30)) := ⟨_, rfl⟩
  have h69 := y_Bsfr h68 h67 e69 f69
  have q69 := f69.trans (congrArg (fun c => z_sfr c 1593 a (some (s + 30))) q68)
  refine ⟨y_rm (w := 400) h69 (Nat.ble_eq_true_of_le (by omega)) (Nat.ble_eq_true_of_le (by omega)), ?_⟩
  intro M_163 e70
  obtain ⟨C70, f70⟩ : ∃ c, c = z_nwa C69 20 400 := ⟨_, rfl⟩
  have h70 := y_Bnwa h69 e70 f70
  have q70 := f70.trans (congrArg (fun c => z_nwa c 20 400) q69)
  intro M_164 e71
  obtain ⟨C71, f71⟩ : ∃ c, c = z_sfr C70 1594 a (some (s + 31)) := ⟨_, rfl⟩
  have h71 := y_Bsfr h70 h69 e71 f71
  have q71 := f71.trans (congrArg (fun c => z_sfr c 1594 a (some (s + 31))) q70)
  refine ⟨y_rm (w := 400) h71 (Nat.ble_eq_true_of_le (by omega)) (Nat.ble_eq_true_of_le (by omega)), ?_⟩
  intro M_166 e72
  obtain ⟨C72, f72⟩ : ∃ c, c = z_nwa C71 20 400 := ⟨_, rfl⟩
  have h72 := y_Bnwa h71 e72 f72
  have q72 := f72.trans (congrArg (fun c => z_nwa c 20 400) q71)
  intro M_167 e73
  obtain ⟨C73, f73⟩ : ∃ c, c = z_sfr C72 1595 a (some (s + 32)) := ⟨_, rfl⟩
  have h73 := y_Bsfr h72 h71 e73 f73
  have q73 := f73.trans (congrArg (fun c => z_sfr c 1595 a (some (s + 32))) q72)
  refine ⟨y_rm (w := 400) h73 (Nat.ble_eq_true_of_le (by omega)) (Nat.ble_eq_true_of_le (by omega)), ?_⟩
  intro M_169 e74
  obtain ⟨C74, f74⟩ : ∃ c, c = z_nwa C73 20 400 := ⟨_, rfl⟩
  have h74 := y_Bnwa h73 e74 f74
  have q74 := f74.trans (congrArg (fun c => z_nwa c 20 400) q73)
  intro M_170 e75
  obtain ⟨C75, f75⟩ : ∃ c, c = z_sfr C74 1596 a (some (s + 33)) := ⟨_, rfl⟩
  have h75 := y_Bsfr h74 h73 e75 f75
  have q75 := f75.trans (congrArg (fun c => z_sfr c 1596 a (some (s + 33))) q74)
  refine ⟨y_rm (w := 400) h75 (Nat.ble_eq_true_of_le (by omega)) (Nat.ble_eq_true_of_le (by omega)), ?_⟩
  intro M_172 e76
  obtain ⟨C76, f76⟩ : ∃ c, c = z_nwa C75 20 400 := ⟨_, rfl⟩
  have h76 := y_Bnwa h75 e76 f76
  have q76 := f76.trans (congrArg (fun c => z_nwa c 20 400) q75)
  intro M_173 e77
  obtain ⟨C77, f77⟩ : ∃ c, c = z_sfr C76 1597 a (some (s + 34)) := ⟨_, rfl⟩
  have h77 := y_Bsfr h76 h75 e77 f77
  have q77 := f77.trans (congrArg (fun c => z_sfr c 1597 a (some (s + 34))) q76)
  refine ⟨y_rm (w := 400) h77 (Nat.ble_eq_true_of_le (by omega)) (Nat.ble_eq_true_of_le (by omega)), ?_⟩
  intro M_175 e78
  obtain ⟨C78, f78⟩ : ∃ c, c = z_nwa C77 20 400 := ⟨_, rfl⟩
  have h78 := y_Bnwa h77 e78 f78
  have q78 := f78.trans (congrArg (fun c => z_nwa c 20 400) q77)
  intro M_176 e79
  obtain ⟨C79, f79⟩ : ∃ c, c = z_sfr C78 1598 a (some (s + 35)) := ⟨_, rfl⟩
  have h79 := y_Bsfr h78 h77 e79 f79
  have q79 := f79.trans (congrArg (fun c => z_sfr c 1598 a (some (s + 35))) q78)
  refine ⟨y_rm (w := 400) h79 (Nat.ble_eq_true_of_le (by omega)) (Nat.ble_eq_true_of_le (by omega)), ?_⟩
  intro M_178 e80
  obtain ⟨C80, f80⟩ : ∃ c, c = z_nwa C79 20 400 := ⟨_, rfl⟩
  have h80 := y_Bnwa h79 e80 f80
  have q80 := f80.trans (congrArg (fun c => z_nwa c 20 400) q79)
  intro M_179 e81
  obtain ⟨C81, f81⟩ : ∃ c, c = z_sfr C80 1599 a (some (s + 36)) := ⟨_, rfl⟩
  have h81 := y_Bsfr h80 h79 e81 f81
  have q81 := f81.trans (congrArg (fun c => z_sfr c 1599 a (some (s + 36))) q80)
  refine ⟨y_rm (w := 400) h81 (Nat.ble_eq_true_of_le (by omega)) (Nat.ble_eq_true_of_le (by omega)), ?_⟩
  intro M_181 e82
  obtain ⟨C82, f82⟩ : ∃ c, c = z_nwa C81 20 400 := ⟨_, rfl⟩
  have h82 := y_Bnwa h81 e82 f82
  have q82 := f82.trans (congrArg (fun c => z_nwa c 20 400) q81)
  intro M_182 e83
  obtain ⟨C83, f83⟩ : ∃ c, c = z_sfr C82 1600 a (some (s + 37)) := ⟨_, rfl⟩
  have h83 := y_Bsfr h82 h81 e83 f83
  have q83 := f83.trans (congrArg (fun c => z_sfr c 1600 a (some (s + 37))) q82)
  refine ⟨y_rm (w := 400) h83 (Nat.ble_eq_true_of_le (by omega)) (Nat.ble_eq_true_of_le (by omega)), ?_⟩
  intro M_184 e84
  obtain ⟨C84, f84⟩ : ∃ c, c = z_nwa C83 21 400 := ⟨_, rfl⟩
  have h84 := y_Bnwa h83 e84 f84
  have q84 := f84.trans (congrArg (fun c => z_nwa c 21 400) q83)
  intro M_185 e85
  obtain ⟨C85, f85⟩ : ∃ c, c = z_sfr C84 1601 a (some (s + 38)) := ⟨_, rfl⟩
  have h85 := y_Bsfr h84 h83 e85 f85
  have q85 := f85.trans (congrArg (fun c => z_sfr c 1601 a (some (s + 38))) q84)
  refine ⟨y_rm (w := 400) h85 (Nat.ble_eq_true_of_le (by omega)) (Nat.ble_eq_true_of_le (by omega)), ?_⟩
  intro M_187 e86
  obtain ⟨C86, f86⟩ : ∃ c, c = z_nwa C85 21 400 := ⟨_, rfl⟩
  have h86 := y_Bnwa h85 e86 f86
  have q86 := f86.trans (congrArg (fun c => z_nwa c 21 400) q85)
  intro M_188 e87
  obtain ⟨C87, f87⟩ : ∃ c, c = z_sfr C86 1602 a (some (s + 39)) := ⟨_, rfl⟩
  have h87 := y_Bsfr h86 h85 e87 f87
  have q87 := f87.trans (congrArg (fun c => z_sfr c 1602 a (some (s + 39))) q86)
  refine ⟨y_rm (w := 400) h87 (Nat.ble_eq_true_of_le (by omega)) (Nat.ble_eq_true_of_le (by omega)), ?_⟩
  intro M_190 e88
  obtain ⟨C88, f88⟩ : ∃ c, c = z_nwa C87 21 400 := ⟨_, rfl⟩
  have h88 := y_Bnwa h87 e88 f88
  have q88 := f88.trans (congrArg (fun c => z_nwa c 21 400) q87)
  intro M_191 e89
  obtain ⟨C89, f89⟩ : ∃ c, c = z_sfr C88 1603 a (some (s + 40)) := ⟨_, rfl⟩
  have h89 := y_Bsfr h88 h87 e89 f89
  have q89 := f89.trans (congrArg (fun c => z_sfr c 1603 a (some (s + 40))) q88)
  refine ⟨y_rm (w := 400) h89 (Nat.ble_eq_true_of_le (by omega)) (Nat.ble_eq_true_of_le (by omega)), ?_⟩
  intro M_193 e90
  obtain ⟨C90, f90⟩ : ∃ c, c = z_nwa C89 20 400 := ⟨_, rfl⟩
  have h90 := y_Bnwa h89 e90 f90
  have q90 := f90.trans (congrArg (fun c => z_nwa c 20 400) q89)
  intro M_194 e91
  obtain ⟨C91, f91⟩ : ∃ c, c = z_sfr C90 1604 a (some (s + 41)) := ⟨_, rfl⟩
  have h91 := y_Bsfr h90 h89 e91 f91
  have q91 := f91.trans (congrArg (fun c => z_sfr c 1604 a (some (s + 41))) q90)
  refine ⟨y_rm (w := 400) h91 (Nat.ble_eq_true_of_le (by omega)) (Nat.ble_eq_true_of_le (by omega)), ?_⟩
  intro M_196 e92
  obtain ⟨C92, f92⟩ : ∃ c, c = z_nwa C91 20 400 := ⟨_, rfl⟩
  have h92 := y_Bnwa h91 e92 f92
  have q92 := f92.trans (congrArg (fun c => z_nwa c 20 400) q91)
  intro M_197 e93
  obtain ⟨C93, f93⟩ : ∃ c, c = z_sfr C92 1605 a (some (s + 42)) := ⟨_, rfl⟩
  have h93 := y_Bsfr h92 h91 e93 f93
  have q93 := f93.trans (congrArg (fun c => z_sfr c 1605 a (some (s + 42))) q92)
  refine ⟨y_rm (w := 2) h93 (Nat.ble_eq_true_of_le (by omega)) (Nat.ble_eq_true_of_le (by omega)), ?_⟩
  intro M_199 e94
  obtain ⟨C94, f94⟩ : ∃ c, c = z_nwa C93 20 2 := ⟨_, rfl⟩
  have h94 := y_Bnwa h93 e94 f94
  have q94 := f94.trans (congrArg (fun c => z_nwa c 20 2) q93)
  intro M_200 e95
  obtain ⟨C95, f95⟩ : ∃ c, c = z_sfr C94 1607 a (some (s + 43)) := ⟨_, rfl⟩
  have h95 := y_Bsfr h94 h93 e95 f95
  have q95 := f95.trans (congrArg (fun c => z_sfr c 1607 a (some (s + 43))) q94)
  refine ⟨y_rm (w := 2) h95 (Nat.ble_eq_true_of_le (by omega)) (Nat.ble_eq_true_of_le (by omega)), ?_⟩
  intro M_202 e96
  obtain ⟨C96, f96⟩ : ∃ c, c = z_nwa C95 20 2 := ⟨_, rfl⟩
  have h96 := y_Bnwa h95 e96 f96
  have q96 := f96.trans (congrArg (fun c => z_nwa c 20 2) q95)
  intro M_203 e97
  obtain ⟨C97, f97⟩ : ∃ c, c = z_sfr C96 1608 a (some (s + 44)) := ⟨_, rfl⟩
  have h97 := y_Bsfr h96 h95 e97 f97
  have q97 := f97.trans (congrArg (fun c => z_sfr c 1608 a (some (s + 44))) q96)
  refine ⟨y_rm (w := 2) h97 (Nat.ble_eq_true_of_le (by omega)) (Nat.ble_eq_true_of_le (by omega)), ?_⟩
  intro M_205 e98
  obtain ⟨C98, f98⟩ : ∃ c, c = z_nwa C97 20 2 := ⟨_, rfl⟩
  have h98 := y_Bnwa h97 e98 f98
  have q98 := f98.trans (congrArg (fun c => z_nwa c 20 2) q97)
  intro M_206 e99
  obtain ⟨C99, f99⟩ : ∃ c, c = z_sfr C98 1609 a (some (s + 45)) := ⟨_, rfl⟩
  have h99 := y_Bsfr h98 h97 e99 f99
  have q99 := f99.trans (congrArg (fun c => z_sfr c 1609 a (some (s + 45))) q98)
  refine ⟨y_rm (w := 2) h99 (Nat.ble_eq_true_of_le (by omega)) (Nat.ble_eq_true_of_le (by omega)), ?_⟩
  intro M_208 e100
  obtain ⟨C100, f100⟩ : ∃ c, c = z_nwa C99 20 2 := ⟨_, rfl⟩
  have h100 := y_Bnwa h99 e100 f100
  have q100 := f100.trans (congrArg (fun c => z_nwa c 20 2) q99)
  intro M_209 e101
  obtain ⟨C101, f101⟩ : ∃ c, c = z_sfr C100 1610 a (some (s + 46)) := ⟨_, rfl⟩
  have h101 := y_Bsfr h100 h99 e101 f101
  have q101 := f101.trans (congrArg (fun c => z_sfr c 1610 a (some (s + 46))) q100)
  refine ⟨y_rm (w := 2) h101 (Nat.ble_eq_true_of_le (by omega)) (Nat.ble_eq_true_of_le (by omega)), ?_⟩
  intro M_211 e102
  obtain ⟨C102, f102⟩ : ∃ c, c = z_nwa C101 20 2 := ⟨_, rfl⟩
  have h102 := y_Bnwa h101 e102 f102
  have q102 := f102.trans (congrArg (fun c => z_nwa c 20 2) q101)
  intro M_212 e103
  obtain ⟨C103, f103⟩ : ∃ c, c = z_sfr C102 1611 a (some (s + 47)) := ⟨_, rfl⟩
  have h103 := y_Bsfr h102 h101 e103 f103
  have q103 := f103.trans (congrArg (fun c => z_sfr c 1611 a (some (s + 47))) q102)
  refine ⟨y_rm (w := 2) h103 (Nat.ble_eq_true_of_le (by omega)) (Nat.ble_eq_true_of_le (by omega)), ?_⟩
  intro M_214 e104
  obtain ⟨C104, f104⟩ : ∃ c, c = z_nwa C103 20 2 := ⟨_, rfl⟩
  have h104 := y_Bnwa h103 e104 f104
  have q104 := f104.trans (congrArg (fun c => z_nwa c 20 2) q103)
  intro M_215 e105
  obtain ⟨C105, f105⟩ : ∃ c, c = z_sfr C104 1612 a (some (s + 48)) := ⟨_, rfl⟩
  have h105 := y_Bsfr h104 h103 e105 f105
  have q105 := f105.trans (congrArg (fun c => z_sfr c 1612 a (some (s + 48))) q104)
  refine ⟨y_rm (w := 2) h105 (Nat.ble_eq_true_of_le (by omega)) (Nat.ble_eq_true_of_le (by omega)), ?_⟩
  intro M_217 e106
  obtain ⟨C106, f106⟩ : ∃ c, c = z_nwa C105 20 2 := ⟨_, rfl⟩
  have h106 := y_Bnwa h105 e106 f106
  have q106 := f106.trans (congrArg (fun c => z_nwa c 20 2) q105)
  intro M_218 e107
  obtain ⟨C107, f107⟩ : ∃ c, c = z_sfr C106 1613 a (some (s + 49)) := ⟨_, rfl⟩
  have h107 := y_Bsfr h106 h105 e107 f107
  have q107 := f107.trans (congrArg (fun c => z_sfr c 1613 a (some (s + 49))) q106)
  refine ⟨y_rm (w := 2) h107 (Nat.ble_eq_true_of_le (by omega)) (Nat.ble_eq_true_of_le (by omega)), ?_⟩
  intro M_220 e108
  obtain ⟨C108, f108⟩ : ∃ c, c = z_nwa C107 21 2 := ⟨_, rfl⟩
  have h108 := y_Bnwa h107 e108 f108
  have q108 := f108.trans (congrArg (fun c => z_nwa c 21 2) q107)
  intro M_221 e109
  obtain ⟨C109, f109⟩ : ∃ c, c = z_sfr C108 1614 a (some (s + 50)) := ⟨_, rfl⟩
  have h109 := y_Bsfr h108 h107 e109 f109
  have q109 := f109.trans (congrArg (fun c => z_sfr c 1614 a (some (s + 50))) q108)
  refine ⟨y_rm (w := 2) h109 (Nat.ble_eq_true_of_le (by omega)) (Nat.ble_eq_true_of_le (by omega)), ?_⟩
  intro M_223 e110
  obtain ⟨C110, f110⟩ : ∃ c, c = z_nwa C109 21 2 := ⟨_, rfl⟩
  have h110 := y_Bnwa h109 e110 f110
  have q110 := f110.trans (congrArg (fun c => z_nwa c 21 2) q109)
  intro M_224 e111
  obtain ⟨C111, f111⟩ : ∃ c, c = z_sfr C110 1615 a (some (s + 51)) := ⟨_, rfl⟩
  have h111 := y_Bsfr h110 h109 e111 f111
  have q111 := f111.trans (congrArg (fun c => z_sfr c 1615 a (some (s + 51))) q110)
  refine ⟨y_rm (w := 2) h111 (Nat.ble_eq_true_of_le (by omega)) (Nat.ble_eq_true_of_le (by omega)), ?_⟩
  intro M_226 e112
  obtain ⟨C112, f112⟩ : ∃ c, c = z_nwa C111 20 2 := ⟨_, rfl⟩
  have h112 := y_Bnwa h111 e112 f112
  have q112 := f112.trans (congrArg (fun c => z_nwa c 20 2) q111)
  intro M_227 e113
  obtain ⟨C113, f113⟩ : ∃ c, c = z_sfr C112 1616 a (some (s + 52)) := ⟨_, rfl⟩
  have h113 := y_Bsfr h112 h111 e113 f113
  have q113 := f113.trans (congrArg (fun c => z_sfr c 1616 a (some (s + 52))) q112)
  refine ⟨y_rm (w := 2) h113 (Nat.ble_eq_true_of_le (by omega)) (Nat.ble_eq_true_of_le (by omega)), ?_⟩
  intro M_229 e114
  obtain ⟨C114, f114⟩ : ∃ c, c = z_nwa C113 20 2 := ⟨_, rfl⟩
  have h114 := y_Bnwa h113 e114 f114
  have q114 := f114.trans (congrArg (fun c => z_nwa c 20 2) q113)
  intro M_230 e115
  obtain ⟨C115, f115⟩ : ∃ c, c = z_sfr C114 1617 a (some (s + 53)) := ⟨_, rfl⟩
  have h115 := y_Bsfr h114 h113 e115 f115
  have q115 := f115.trans (congrArg (fun c => z_sfr c 1617 a (some (s + 53))) q114)
  refine ⟨y_rm (w := 2) h115 (Nat.ble_eq_true_of_le (by omega)) (Nat.ble_eq_true_of_le (by omega)), ?_⟩
  intro M_232 e116
  obtain ⟨C116, f116⟩ : ∃ c, c = z_nwa C115 20 2 := ⟨_, rfl⟩
  have h116 := y_Bnwa h115 e116 f116
  have q116 := f116.trans (congrArg (fun c => z_nwa c 20 2) q115)
  intro M_233 e117
  obtain ⟨C117, f117⟩ : ∃ c, c = z_sfr C116 1618 a (some (s + 54)) := ⟨_, rfl⟩
  have h117 := y_Bsfr h116 h115 e117 f117
  have q117 := f117.trans (congrArg (fun c => z_sfr c 1618 a (some (s + 54))) q116)
  refine ⟨y_rm (w := 2) h117 (Nat.ble_eq_true_of_le (by omega)) (Nat.ble_eq_true_of_le (by omega)), ?_⟩
  intro M_235 e118
  obtain ⟨C118, f118⟩ : ∃ c, c = z_nwa C117 20 2 := ⟨_, rfl⟩
  have h118 := y_Bnwa h117 e118 f118
  have q118 := f118.trans (congrArg (fun c => z_nwa c 20 2) q117)
  intro M_236 e119
  obtain ⟨C119, f119⟩ : ∃ c, c = z_sfr C118 1619 a (some (s + 55)) := ⟨_, rfl⟩
  have h119 := y_Bsfr h118 h117 e119 f119
  have q119 := f119.trans (congrArg (fun c => z_sfr c 1619 a (some (s + 55))) q118)
  refine ⟨y_rm (w := 2) h119 (Nat.ble_eq_true_of_le (by omega)) (Nat.ble_eq_true_of_le (by omega)), ?_⟩
  intro M_238 e120
  obtain ⟨C120, f120⟩ : ∃ c, c = z_nwa C119 20 2 := ⟨_, rfl⟩
  have h120 := y_Bnwa h119 e120 f120
  have q120 := f120.trans (congrArg (fun c => z_nwa c 20 2) q119)
  intro M_239 e121
  obtain ⟨C121, f121⟩ : ∃ c, c = z_sfr C120 1620 a (some (s + 56)) := ⟨_, rfl⟩
  have h121 := y_Bsfr h120 h119 e121 f121
  have q121 := f121.trans (congrArg (fun c => z_sfr c 1620 a (some (s + 56))) q120)
  refine ⟨y_rm (w := 16) h121 (Nat.ble_eq_true_of_le (by omega)) (Nat.ble_eq_true_of_le (by omega)), ?_⟩
  intro M_241 e122
  obtain ⟨C122, f122⟩ : ∃ c, c = z_nwa C121 20 16 := ⟨_, rfl⟩
  have h122 := y_Bnwa h121 e122 f122
  have q122 := f122.trans (congrArg (fun c => z_nwa c 20 16) q121)
  intro M_242 e123
  obtain ⟨C123, f123⟩ : ∃ c, c = z_sfr C122 1621 a (some (s + 57)) := ⟨_, rfl⟩
  have h123 := y_Bsfr h122 h121 e123 f123
  have q123 := f123.trans (congrArg (fun c => z_sfr c 1621 a (some (s + 57))) q122)
  refine ⟨y_rm (w := 2) h123 (Nat.ble_eq_true_of_le (by omega)) (Nat.ble_eq_true_of_le (by omega)), ?_⟩
  intro M_244 e124
  obtain ⟨C124, f124⟩ : ∃ c, c = z_nwa C123 20 2 := ⟨_, rfl⟩
  have h124 := y_Bnwa h123 e124 f124
  have q124 := f124.trans (congrArg (fun c => z_nwa c 20 2) q123)
  intro M_245 e125
  obtain ⟨C125, f125⟩ : ∃ c, c = z_sfr C124 1622 a (some (s + 58)) := ⟨_, rfl⟩
  have h125 := y_Bsfr h124 h123 e125 f125
  have q125 := f125.trans (congrArg (fun c => z_sfr c 1622 a (some (s + 58))) q124)
  refine ⟨y_rm (w := 2) h125 (Nat.ble_eq_true_of_le (by omega)) (Nat.ble_eq_true_of_le (by omega)), ?_⟩
  intro M_247 e126
  obtain ⟨C126, f126⟩ : ∃ c, c = z_nwa C125 20 2 := ⟨_, rfl⟩
  have h126 := y_Bnwa h125 e126 f126
  have q126 := f126.trans (congrArg (fun c => z_nwa c 20 2) q125)
  intro M_248 e127
  obtain ⟨C127, f127⟩ : ∃ c, c = z_sfr C126 1623 a (some (s + 59)) := ⟨_, rfl⟩
  have h127 := y_Bsfr h126 h125 e127 f127
  have q127 := f127.trans (congrArg (fun c => z_sfr c 1623 a (some (s + 59))) q126)
  refine ⟨y_rm (w := 2) h127 (Nat.ble_eq_true_of_le (by omega)) (Nat.ble_eq_true_of_le (by omega)), ?_⟩
  intro M_250 e128
  obtain ⟨C128, f128⟩ : ∃ c, c = z_nwa C127 20 2 := ⟨_, rfl⟩
  have h128 := y_Bnwa h127 e128 f128
  have q128 := f128.trans (congrArg (fun c => z_nwa c 20 2) q127)
  intro M_251 e129
  obtain ⟨C129, f129⟩ : ∃ c, c = z_sfr C128 1624 a (some (s + 60)) := ⟨_, rfl⟩
  have h129 := y_Bsfr h128 h127 e129 f129
  have q129 := f129.trans (congrArg (fun c => z_sfr c 1624 a (some (s + 60))) q128)
  refine ⟨y_rm (w := 2) h129 (Nat.ble_eq_true_of_le (by omega)) (Nat.ble_eq_true_of_le (by omega)), ?_⟩
  intro M_253 e130
  obtain ⟨C130, f130⟩ : ∃ c, c = z_nwa C129 20 2 := ⟨_, rfl⟩
  have h130 := y_Bnwa h129 e130 f130
  have q130 := f130.trans (congrArg (fun c => z_nwa c 20 2) q129)
  intro M_254 e131
  obtain ⟨C131, f131⟩ : ∃ c, c = z_sfr C130 1625 a (some (s + 61)) := ⟨_, rfl⟩
  have h131 := y_Bsfr h130 h129 e131 f131
  have q131 := f131.trans (congrArg (fun c => z_sfr c 1625 a (some (s + 61))) q130)
  refine ⟨y_rm (w := 2) h131 (Nat.ble_eq_true_of_le (by omega)) (Nat.ble_eq_true_of_le (by omega)), ?_⟩
  intro M_256 e132
  obtain ⟨C132, f132⟩ : ∃ c, c = z_nwa C131 20 2 := ⟨_, rfl⟩
  have h132 := y_Bnwa h131 e132 f132
  have q132 := f132.trans (congrArg (fun c => z_nwa c 20 2) q131)
  intro M_257 e133
  obtain ⟨C133, f133⟩ : ∃ c, c = z_sfr C132 1626 a (some (s + 62)) := ⟨_, rfl⟩
  have h133 := y_Bsfr h132 h131 e133 f133
  have q133 := f133.trans (congrArg (fun c => z_sfr c 1626 a (some (s + 62))) q132)
  refine ⟨y_rm (w := 2) h133 (Nat.ble_eq_true_of_le (by omega)) (Nat.ble_eq_true_of_le (by omega)), ?_⟩
  intro M_259 e134
  obtain ⟨C134, f134⟩ : ∃ c, c = z_nwa C133 20 2 := ⟨_, rfl⟩
  have h134 := y_Bnwa h133 e134 f134
  have q134 := f134.trans (congrArg (fun c => z_nwa c 20 2) q133)
  intro M_260 e135
  obtain ⟨C135, f135⟩ : ∃ c, c = z_sfr C134 1627 a (some (s + 63)) := ⟨_, rfl⟩
  have h135 := y_Bsfr h134 h133 e135 f135
  have q135 := f135.trans (congrArg (fun c => z_sfr c 1627 a (some (s + 63))) q134)
  refine ⟨y_rm (w := 2) h135 (Nat.ble_eq_true_of_le (by omega)) (Nat.ble_eq_true_of_le (by omega)), ?_⟩
  intro M_262 e136
  obtain ⟨C136, f136⟩ : ∃ c, c = z_nwa C135 20 2 := ⟨_, rfl⟩
  have h136 := y_Bnwa h135 e136 f136
  have q136 := f136.trans (congrArg (fun c => z_nwa c 20 2) q135)
  intro M_263 e137
  obtain ⟨C137, f137⟩ : ∃ c, c = z_sfr C136 1628 a (some (s + 64)) := ⟨_, rfl⟩
  have h137 := y_Bsfr h136 h135 e137 f137
  have q137 := f137.trans (congrArg (fun c => z_sfr c 1628 a (some (s + 64))) q136)
  refine ⟨y_rm (w := 6) h137 (Nat.ble_eq_true_of_le (by omega)) (Nat.ble_eq_true_of_le (by omega)), ?_⟩
  intro M_265 e138
  obtain ⟨C138, f138⟩ : ∃ c, c = z_nwa C137 20 6 := ⟨_, rfl⟩
  have h138 := y_Bnwa h137 e138 f138
  have q138 := f138.trans (congrArg (fun c => z_nwa c 20 6) q137)
  intro M_266 e139
  obtain ⟨C139, f139⟩ : ∃ c, c = z_sfr C138 1629 a (some (s + 65)) := ⟨_, rfl⟩
  have h139 := y_Bsfr h138 h137 e139 f139
  have q139 := f139.trans (congrArg (fun c => z_sfr c 1629 a (some (s + 65))) q138)
  exact k _ _ h139 q139
noncomputable def y_m0 : z_Mem := z_M0 0
noncomputable def y_m1 : z_Mem := z_new y_m0 12 5
noncomputable def y_m2 : z_Mem := z_new y_m1 6 6
noncomputable def y_m3 : z_Mem := c_X5_init 1 2 y_m2
noncomputable def y_m4 : z_Mem := z_sfr y_m3 1408 0 (some 1)
noncomputable def y_m5 : z_Mem := z_nwa y_m4 24 4
noncomputable def y_m6 : z_Mem := z_sfr y_m5 1409 0 (some 11)
noncomputable def y_m7 : z_Mem := z_new y_m6 10 10
noncomputable def y_m8 : z_Mem := c_X9_init 12 13 y_m7
noncomputable def y_m9 : z_Mem := z_sar y_m8 11 0 (some 12)
noncomputable def y_m10 : z_Mem := z_new y_m9 10 10
noncomputable def y_m11 : z_Mem := c_X9_init 16 17 y_m10
noncomputable def y_m12 : z_Mem := z_sar y_m11 11 1 (some 16)
noncomputable def y_m13 : z_Mem := z_new y_m12 10 10
noncomputable def y_m14 : z_Mem := c_X9_init 20 21 y_m13
noncomputable def y_m15 : z_Mem := z_sar y_m14 11 2 (some 20)
noncomputable def y_m16 : z_Mem := z_new y_m15 10 10
noncomputable def y_m17 : z_Mem := c_X9_init 24 25 y_m16
noncomputable def y_m18 : z_Mem := z_sar y_m17 11 3 (some 24)
noncomputable def y_m19 : z_Mem := z_new y_m18 9 16
noncomputable def y_m20 : z_Mem := c_X8_init 28 29 1 11 y_m19
noncomputable def y_m21 : z_Mem := z_sfr y_m20 1410 0 (some 28)
noncomputable def y_m22 : z_Mem := z_new y_m21 2 19
noncomputable def y_m23 : z_Mem := c_X1_init 31 32 1 11 y_m22
noncomputable def y_m24 : z_Mem := z_sfr y_m23 1411 0 (some 31)
noncomputable def y_m25 : z_Mem := z_nwa y_m24 21 200
noncomputable def y_m26 : z_Mem := z_sfr y_m25 1412 0 (some 39)
noncomputable def y_m27 : z_Mem := z_new y_m26 13 95
noncomputable def y_m28 : z_Mem := c_X12_init 40 41 y_m27
set_option maxRecDepth 100000 in
theorem y_f1537 : z_fr y_m28 1537 40 = some 41 := by decide +kernel
set_option maxRecDepth 100000 in
theorem y_l1537 : z_ln y_m28 41 = 2 := by decide +kernel
set_option maxRecDepth 100000 in
theorem y_f1538 : z_fr y_m28 1538 40 = some 42 := by decide +kernel
set_option maxRecDepth 100000 in
theorem y_l1538 : z_ln y_m28 42 = 2 := by decide +kernel
set_option maxRecDepth 100000 in
theorem y_f1539 : z_fr y_m28 1539 40 = some 43 := by decide +kernel
set_option maxRecDepth 100000 in
theorem y_l1539 : z_ln y_m28 43 = 2 := by decide +kernel
set_option maxRecDepth 100000 in
theorem y_f1540 : z_fr y_m28 1540 40 = some 44 := by decide +kernel
set_option maxRecDepth 100000 in
theorem y_l1540 : z_ln y_m28 44 = 2 := by decide +kernel
set_option maxRecDepth 100000 in
theorem y_f1588 : z_fr y_m28 1588 40 = some 68 := by decide +kernel
set_option maxRecDepth 100000 in
theorem y_l1588 : z_ln y_m28 68 = 4 := by decide +kernel
set_option maxRecDepth 100000 in
theorem y_f1607 : z_fr y_m28 1607 40 = some 84 := by decide +kernel
set_option maxRecDepth 100000 in
theorem y_l1607 : z_ln y_m28 84 = 2 := by decide +kernel
set_option maxRecDepth 100000 in
theorem y_f1608 : z_fr y_m28 1608 40 = some 85 := by decide +kernel
set_option maxRecDepth 100000 in
theorem y_l1608 : z_ln y_m28 85 = 2 := by decide +kernel
set_option maxRecDepth 100000 in
theorem y_f1610 : z_fr y_m28 1610 40 = some 87 := by decide +kernel
set_option maxRecDepth 100000 in
theorem y_l1610 : z_ln y_m28 87 = 2 := by decide +kernel
set_option maxRecDepth 100000 in
theorem y_f1611 : z_fr y_m28 1611 40 = some 88 := by decide +kernel
set_option maxRecDepth 100000 in
theorem y_l1611 : z_ln y_m28 88 = 2 := by decide +kernel
set_option maxRecDepth 100000 in
theorem y_f1612 : z_fr y_m28 1612 40 = some 89 := by decide +kernel
set_option maxRecDepth 100000 in
theorem y_l1612 : z_ln y_m28 89 = 2 := by decide +kernel
set_option maxRecDepth 100000 in
theorem y_f1613 : z_fr y_m28 1613 40 = some 90 := by decide +kernel
set_option maxRecDepth 100000 in
theorem y_l1613 : z_ln y_m28 90 = 2 := by decide +kernel
set_option maxRecDepth 100000 in
theorem y_f1615 : z_fr y_m28 1615 40 = some 92 := by decide +kernel
set_option maxRecDepth 100000 in
theorem y_l1615 : z_ln y_m28 92 = 2 := by decide +kernel
set_option maxRecDepth 100000 in
theorem y_f1617 : z_fr y_m28 1617 40 = some 94 := by decide +kernel
set_option maxRecDepth 100000 in
theorem y_l1617 : z_ln y_m28 94 = 2 := by decide +kernel
set_option maxRecDepth 100000 in
theorem y_f1625 : z_fr y_m28 1625 40 = some 102 := by decide +kernel
set_option maxRecDepth 100000 in
theorem y_l1625 : z_ln y_m28 102 = 2 := by decide +kernel
noncomputable def y_m29 : z_Mem := z_sai y_m28 41 0 5
noncomputable def y_m30 : z_Mem := z_sai y_m29 42 0 2
noncomputable def y_m31 : z_Mem := z_sai y_m30 43 0 8
noncomputable def y_m32 : z_Mem := z_sai y_m31 44 0 6
noncomputable def y_m33 : z_Mem := z_sai y_m32 84 0 160
noncomputable def y_m34 : z_Mem := z_sai y_m33 85 0 999999
noncomputable def y_m35 : z_Mem := z_sai y_m34 87 0 80
noncomputable def y_m36 : z_Mem := z_sai y_m35 88 0 20
noncomputable def y_m37 : z_Mem := z_sai y_m36 89 0 10
noncomputable def y_m38 : z_Mem := z_sai y_m37 90 0 10
noncomputable def y_m39 : z_Mem := z_sai y_m38 94 0 (-1)
noncomputable def y_m40 : z_Mem := z_sai y_m39 102 0 (-1)
noncomputable def y_m41 : z_Mem := z_sai y_m40 41 1 5
noncomputable def y_m42 : z_Mem := z_sai y_m41 42 1 2
noncomputable def y_m43 : z_Mem := z_sai y_m42 43 1 8
noncomputable def y_m44 : z_Mem := z_sai y_m43 44 1 6
noncomputable def y_m45 : z_Mem := z_sai y_m44 84 1 160
noncomputable def y_m46 : z_Mem := z_sai y_m45 85 1 999999
noncomputable def y_m47 : z_Mem := z_sai y_m46 87 1 80
noncomputable def y_m48 : z_Mem := z_sai y_m47 88 1 20
noncomputable def y_m49 : z_Mem := z_sai y_m48 89 1 10
noncomputable def y_m50 : z_Mem := z_sai y_m49 90 1 10
noncomputable def y_m51 : z_Mem := z_sai y_m50 94 1 (-1)
noncomputable def y_m52 : z_Mem := z_sai y_m51 102 1 (-1)
noncomputable def y_m53 : z_Mem := z_sai y_m52 92 0 1
noncomputable def y_m54 : z_Mem := z_sai y_m53 68 0 40
noncomputable def y_m55 : z_Mem := z_sai y_m54 68 1 40
noncomputable def y_m56 : z_Mem := z_sai y_m55 68 2 40
noncomputable def y_m57 : z_Mem := z_sai y_m56 68 3 40
noncomputable def y_m58 : z_Mem := z_nwa y_m57 25 1
theorem y_saifr {C : z_Mem} {a j : Nat} {v : Int32} : z_fr (z_sai C a j v) = z_fr C := rfl
theorem y_saile {C : z_Mem} {a j : Nat} {v : Int32} : z_ln (z_sai C a j v) = z_ln C := rfl
theorem y_fe28 : z_fr y_m28 = z_fr y_m28 := Eq.refl _
theorem y_le28 : z_ln y_m28 = z_ln y_m28 := Eq.refl _
theorem y_fe29 : z_fr y_m29 = z_fr y_m28 := (y_saifr (C := y_m28) (a := 41) (j := 0) (v := 5)).trans y_fe28
theorem y_le29 : z_ln y_m29 = z_ln y_m28 := (y_saile (C := y_m28) (a := 41) (j := 0) (v := 5)).trans y_le28
theorem y_fe30 : z_fr y_m30 = z_fr y_m28 := (y_saifr (C := y_m29) (a := 42) (j := 0) (v := 2)).trans y_fe29
theorem y_le30 : z_ln y_m30 = z_ln y_m28 := (y_saile (C := y_m29) (a := 42) (j := 0) (v := 2)).trans y_le29
theorem y_fe31 : z_fr y_m31 = z_fr y_m28 := (y_saifr (C := y_m30) (a := 43) (j := 0) (v := 8)).trans y_fe30
theorem y_le31 : z_ln y_m31 = z_ln y_m28 := (y_saile (C := y_m30) (a := 43) (j := 0) (v := 8)).trans y_le30
theorem y_fe32 : z_fr y_m32 = z_fr y_m28 := (y_saifr (C := y_m31) (a := 44) (j := 0) (v := 6)).trans y_fe31
theorem y_le32 : z_ln y_m32 = z_ln y_m28 := (y_saile (C := y_m31) (a := 44) (j := 0) (v := 6)).trans y_le31
theorem y_fe33 : z_fr y_m33 = z_fr y_m28 := (y_saifr (C := y_m32) (a := 84) (j := 0) (v := 160)).trans y_fe32
theorem y_le33 : z_ln y_m33 = z_ln y_m28 := (y_saile (C := y_m32) (a := 84) (j := 0) (v := 160)).trans y_le32
theorem y_fe34 : z_fr y_m34 = z_fr y_m28 := (y_saifr (C := y_m33) (a := 85) (j := 0) (v := 999999)).trans y_fe33
theorem y_le34 : z_ln y_m34 = z_ln y_m28 := (y_saile (C := y_m33) (a := 85) (j := 0) (v := 999999)).trans y_le33
theorem y_fe35 : z_fr y_m35 = z_fr y_m28 := (y_saifr (C := y_m34) (a := 87) (j := 0) (v := 80)).trans y_fe34
theorem y_le35 : z_ln y_m35 = z_ln y_m28 := (y_saile (C := y_m34) (a := 87) (j := 0) (v := 80)).trans y_le34
theorem y_fe36 : z_fr y_m36 = z_fr y_m28 := (y_saifr (C := y_m35) (a := 88) (j := 0) (v := 20)).trans y_fe35
theorem y_le36 : z_ln y_m36 = z_ln y_m28 := (y_saile (C := y_m35) (a := 88) (j := 0) (v := 20)).trans y_le35
theorem y_fe37 : z_fr y_m37 = z_fr y_m28 := (y_saifr (C := y_m36) (a := 89) (j := 0) (v := 10)).trans y_fe36
theorem y_le37 : z_ln y_m37 = z_ln y_m28 := (y_saile (C := y_m36) (a := 89) (j := 0) (v := 10)).trans y_le36
theorem y_fe38 : z_fr y_m38 = z_fr y_m28 := (y_saifr (C := y_m37) (a := 90) (j := 0) (v := 10)).trans y_fe37
theorem y_le38 : z_ln y_m38 = z_ln y_m28 := (y_saile (C := y_m37) (a := 90) (j := 0) (v := 10)).trans y_le37
theorem y_fe39 : z_fr y_m39 = z_fr y_m28 := (y_saifr (C := y_m38) (a := 94) (j := 0) (v := (-1))).trans y_fe38
theorem y_le39 : z_ln y_m39 = z_ln y_m28 := (y_saile (C := y_m38) (a := 94) (j := 0) (v := (-1))).trans y_le38
theorem y_fe40 : z_fr y_m40 = z_fr y_m28 := (y_saifr (C := y_m39) (a := 102) (j := 0) (v := (-1))).trans y_fe39
theorem y_le40 : z_ln y_m40 = z_ln y_m28 := (y_saile (C := y_m39) (a := 102) (j := 0) (v := (-1))).trans y_le39
theorem y_fe41 : z_fr y_m41 = z_fr y_m28 := (y_saifr (C := y_m40) (a := 41) (j := 1) (v := 5)).trans y_fe40
theorem y_le41 : z_ln y_m41 = z_ln y_m28 := (y_saile (C := y_m40) (a := 41) (j := 1) (v := 5)).trans y_le40
theorem y_fe42 : z_fr y_m42 = z_fr y_m28 := (y_saifr (C := y_m41) (a := 42) (j := 1) (v := 2)).trans y_fe41
theorem y_le42 : z_ln y_m42 = z_ln y_m28 := (y_saile (C := y_m41) (a := 42) (j := 1) (v := 2)).trans y_le41
theorem y_fe43 : z_fr y_m43 = z_fr y_m28 := (y_saifr (C := y_m42) (a := 43) (j := 1) (v := 8)).trans y_fe42
theorem y_le43 : z_ln y_m43 = z_ln y_m28 := (y_saile (C := y_m42) (a := 43) (j := 1) (v := 8)).trans y_le42
theorem y_fe44 : z_fr y_m44 = z_fr y_m28 := (y_saifr (C := y_m43) (a := 44) (j := 1) (v := 6)).trans y_fe43
theorem y_le44 : z_ln y_m44 = z_ln y_m28 := (y_saile (C := y_m43) (a := 44) (j := 1) (v := 6)).trans y_le43
theorem y_fe45 : z_fr y_m45 = z_fr y_m28 := (y_saifr (C := y_m44) (a := 84) (j := 1) (v := 160)).trans y_fe44
theorem y_le45 : z_ln y_m45 = z_ln y_m28 := (y_saile (C := y_m44) (a := 84) (j := 1) (v := 160)).trans y_le44
theorem y_fe46 : z_fr y_m46 = z_fr y_m28 := (y_saifr (C := y_m45) (a := 85) (j := 1) (v := 999999)).trans y_fe45
theorem y_le46 : z_ln y_m46 = z_ln y_m28 := (y_saile (C := y_m45) (a := 85) (j := 1) (v := 999999)).trans y_le45
theorem y_fe47 : z_fr y_m47 = z_fr y_m28 := (y_saifr (C := y_m46) (a := 87) (j := 1) (v := 80)).trans y_fe46
theorem y_le47 : z_ln y_m47 = z_ln y_m28 := (y_saile (C := y_m46) (a := 87) (j := 1) (v := 80)).trans y_le46
theorem y_fe48 : z_fr y_m48 = z_fr y_m28 := (y_saifr (C := y_m47) (a := 88) (j := 1) (v := 20)).trans y_fe47
theorem y_le48 : z_ln y_m48 = z_ln y_m28 := (y_saile (C := y_m47) (a := 88) (j := 1) (v := 20)).trans y_le47
theorem y_fe49 : z_fr y_m49 = z_fr y_m28 := (y_saifr (C := y_m48) (a := 89) (j := 1) (v := 10)).trans y_fe48
theorem y_le49 : z_ln y_m49 = z_ln y_m28 := (y_saile (C := y_m48) (a := 89) (j := 1) (v := 10)).trans y_le48
theorem y_fe50 : z_fr y_m50 = z_fr y_m28 := (y_saifr (C := y_m49) (a := 90) (j := 1) (v := 10)).trans y_fe49
theorem y_le50 : z_ln y_m50 = z_ln y_m28 := (y_saile (C := y_m49) (a := 90) (j := 1) (v := 10)).trans y_le49
theorem y_fe51 : z_fr y_m51 = z_fr y_m28 := (y_saifr (C := y_m50) (a := 94) (j := 1) (v := (-1))).trans y_fe50
theorem y_le51 : z_ln y_m51 = z_ln y_m28 := (y_saile (C := y_m50) (a := 94) (j := 1) (v := (-1))).trans y_le50
theorem y_fe52 : z_fr y_m52 = z_fr y_m28 := (y_saifr (C := y_m51) (a := 102) (j := 1) (v := (-1))).trans y_fe51
theorem y_le52 : z_ln y_m52 = z_ln y_m28 := (y_saile (C := y_m51) (a := 102) (j := 1) (v := (-1))).trans y_le51
theorem y_fe53 : z_fr y_m53 = z_fr y_m28 := (y_saifr (C := y_m52) (a := 92) (j := 0) (v := 1)).trans y_fe52
theorem y_le53 : z_ln y_m53 = z_ln y_m28 := (y_saile (C := y_m52) (a := 92) (j := 0) (v := 1)).trans y_le52
theorem y_fe54 : z_fr y_m54 = z_fr y_m28 := (y_saifr (C := y_m53) (a := 68) (j := 0) (v := 40)).trans y_fe53
theorem y_le54 : z_ln y_m54 = z_ln y_m28 := (y_saile (C := y_m53) (a := 68) (j := 0) (v := 40)).trans y_le53
theorem y_fe55 : z_fr y_m55 = z_fr y_m28 := (y_saifr (C := y_m54) (a := 68) (j := 1) (v := 40)).trans y_fe54
theorem y_le55 : z_ln y_m55 = z_ln y_m28 := (y_saile (C := y_m54) (a := 68) (j := 1) (v := 40)).trans y_le54
theorem y_fe56 : z_fr y_m56 = z_fr y_m28 := (y_saifr (C := y_m55) (a := 68) (j := 2) (v := 40)).trans y_fe55
theorem y_le56 : z_ln y_m56 = z_ln y_m28 := (y_saile (C := y_m55) (a := 68) (j := 2) (v := 40)).trans y_le55
theorem y_fe57 : z_fr y_m57 = z_fr y_m28 := (y_saifr (C := y_m56) (a := 68) (j := 3) (v := 40)).trans y_fe56
theorem y_le57 : z_ln y_m57 = z_ln y_m28 := (y_saile (C := y_m56) (a := 68) (j := 3) (v := 40)).trans y_le56
noncomputable abbrev y_C : z_Mem := y_m58
set_option maxRecDepth 100000 in
set_option maxHeartbeats 4000000 in
theorem y_start {L : Nat} {xs : Nat → Int32} {n : Nat} {Post : Int32 → z_Mem → Prop} (k : ∀ M, y_B n M y_C 601024 108 7293034 89908 108 → ∃ m, P_L_law_23 L xs Post m (some (n + 0)) (some (n + 40)) (some (n + 107)) 0 M) : P_L_law L xs (z_M0 n) Post := by
  have h0 : y_B n (z_M0 n) y_m0 601024 0 7293034 0 0 := ⟨y_sh_0, Nat.le_refl _, Nat.le_refl _, rfl⟩
  unfold P_L_law
  rw [y_zz h0]
  refine ⟨y_rm (w := 5) h0 rfl rfl, ?_⟩
  intro M1 e1
  have h1 := y_Bnew h0 e1 (rfl : y_m1 = _)
  unfold P_X11_init
  refine ⟨y_rm (w := 6) h1 rfl rfl, ?_⟩
  intro M2 e2
  have h2 := y_Bnew h1 e2 (rfl : y_m2 = _)
  show P_X5_init (z_sz M1) M2 _
  refine y_X5_init (y_zz h1) h2 rfl rfl (fun M3 C3 h3 f3 => ?_)
  have f3 : C3 = y_m3 := f3
  subst f3
  intro M4 e4
  have h4 := y_Bsfr h3 h1 e4 (rfl : y_m4 = z_sfr y_m3 1408 0 (some 1))
  refine ⟨y_rm (w := 4) h4 rfl rfl, ?_⟩
  intro M5 e5
  have h5 := y_Bnwa h4 e5 (rfl : y_m5 = _)
  intro M6 e6
  have h6 := y_Bsfr h5 h4 e6 (rfl : y_m6 = z_sfr y_m5 1409 0 (some 11))
  refine ⟨5, ?_⟩
  rw [P_X11_init_25]
  refine ⟨fun hx => absurd hx (by decide), fun _ => ?_⟩
  refine ⟨y_rm (w := 10) h6 rfl rfl, ?_⟩
  intro M7 e7
  have h7 := y_Bnew h6 e7 (rfl : y_m7 = _)
  refine y_X9_init (y_zz h6) h7 rfl rfl (fun M8 C8 h8 f8 => ?_)
  have f8 : C8 = y_m8 := f8
  subst f8
  refine ⟨n + 11, (y_Bfr h6 (show z_fr y_m6 1409 0 = some 11 from by decide +kernel)), ?_⟩
  refine ⟨by rw [(y_Bln h8 (show z_ln y_m8 11 = 4 from by decide +kernel))]; exact y_in (by decide), ?_⟩
  intro M9 e9
  rw [y_zz h6] at e9
  have h9 := y_Bsar (j := 0) h8 e9 (rfl : y_m9 = z_sar y_m8 11 0 (some 12))
  intro x9 ex9; subst ex9
  rw [P_X11_init_25]
  refine ⟨fun hx => absurd hx (by decide), fun _ => ?_⟩
  refine ⟨y_rm (w := 10) h9 rfl rfl, ?_⟩
  intro M10 e10
  have h10 := y_Bnew h9 e10 (rfl : y_m10 = _)
  refine y_X9_init (y_zz h9) h10 rfl rfl (fun M11 C11 h11 f11 => ?_)
  have f11 : C11 = y_m11 := f11
  subst f11
  refine ⟨n + 11, (y_Bfr h9 (show z_fr y_m9 1409 0 = some 11 from by decide +kernel)), ?_⟩
  refine ⟨by rw [(y_Bln h11 (show z_ln y_m11 11 = 4 from by decide +kernel))]; exact y_in (by decide), ?_⟩
  intro M12 e12
  rw [y_zz h9] at e12
  have h12 := y_Bsar (j := 1) h11 e12 (rfl : y_m12 = z_sar y_m11 11 1 (some 16))
  intro x12 ex12; subst ex12
  rw [P_X11_init_25]
  refine ⟨fun hx => absurd hx (by decide), fun _ => ?_⟩
  refine ⟨y_rm (w := 10) h12 rfl rfl, ?_⟩
  intro M13 e13
  have h13 := y_Bnew h12 e13 (rfl : y_m13 = _)
  refine y_X9_init (y_zz h12) h13 rfl rfl (fun M14 C14 h14 f14 => ?_)
  have f14 : C14 = y_m14 := f14
  subst f14
  refine ⟨n + 11, (y_Bfr h12 (show z_fr y_m12 1409 0 = some 11 from by decide +kernel)), ?_⟩
  refine ⟨by rw [(y_Bln h14 (show z_ln y_m14 11 = 4 from by decide +kernel))]; exact y_in (by decide), ?_⟩
  intro M15 e15
  rw [y_zz h12] at e15
  have h15 := y_Bsar (j := 2) h14 e15 (rfl : y_m15 = z_sar y_m14 11 2 (some 20))
  intro x15 ex15; subst ex15
  rw [P_X11_init_25]
  refine ⟨fun hx => absurd hx (by decide), fun _ => ?_⟩
  refine ⟨y_rm (w := 10) h15 rfl rfl, ?_⟩
  intro M16 e16
  have h16 := y_Bnew h15 e16 (rfl : y_m16 = _)
  refine y_X9_init (y_zz h15) h16 rfl rfl (fun M17 C17 h17 f17 => ?_)
  have f17 : C17 = y_m17 := f17
  subst f17
  refine ⟨n + 11, (y_Bfr h15 (show z_fr y_m15 1409 0 = some 11 from by decide +kernel)), ?_⟩
  refine ⟨by rw [(y_Bln h17 (show z_ln y_m17 11 = 4 from by decide +kernel))]; exact y_in (by decide), ?_⟩
  intro M18 e18
  rw [y_zz h15] at e18
  have h18 := y_Bsar (j := 3) h17 e18 (rfl : y_m18 = z_sar y_m17 11 3 (some 24))
  intro x18 ex18; subst ex18
  rw [P_X11_init_25]
  refine ⟨fun _ => ?_, fun hx => absurd (by decide) hx⟩
  refine ⟨y_rm (w := 16) h18 rfl rfl, ?_⟩
  intro M19 e19
  have h19 := y_Bnew h18 e19 (rfl : y_m19 = _)
  rw [(y_Bfr h19 (show z_fr y_m19 1408 0 = some 1 from by decide +kernel)), (y_Bfr h19 (show z_fr y_m19 1409 0 = some 11 from by decide +kernel))]
  refine y_X8_init (y_zz h18) h19 rfl rfl (fun M20 C20 h20 f20 => ?_)
  have f20 : C20 = y_m20 := f20
  subst f20
  intro M21 e21
  have h21 := y_Bsfr h20 h18 e21 (rfl : y_m21 = z_sfr y_m20 1410 0 (some 28))
  refine ⟨y_rm (w := 19) h21 rfl rfl, ?_⟩
  intro M22 e22
  have h22 := y_Bnew h21 e22 (rfl : y_m22 = _)
  rw [(y_Bfr h22 (show z_fr y_m22 1408 0 = some 1 from by decide +kernel)), (y_Bfr h22 (show z_fr y_m22 1409 0 = some 11 from by decide +kernel))]
  refine y_X1_init (y_zz h21) h22 rfl rfl (fun M23 C23 h23 f23 => ?_)
  have f23 : C23 = y_m23 := f23
  subst f23
  intro M24 e24
  have h24 := y_Bsfr h23 h21 e24 (rfl : y_m24 = z_sfr y_m23 1411 0 (some 31))
  refine ⟨y_rm (w := 200) h24 rfl rfl, ?_⟩
  intro M25 e25
  have h25 := y_Bnwa h24 e25 (rfl : y_m25 = _)
  intro M26 e26
  have h26 := y_Bsfr h25 h24 e26 (rfl : y_m26 = z_sfr y_m25 1412 0 (some 39))
  refine ⟨y_rm (w := 95) h26 rfl rfl, ?_⟩
  intro M27 e27
  have h27 := y_Bnew h26 e27 (rfl : y_m27 = _)
  refine y_X12_init (y_zz h26) h27 rfl rfl (fun M28 C28 h28 f28 => ?_)
  have f28 : C28 = y_m28 := f28
  subst f28
  refine ⟨3, ?_⟩
  rw [P_X12_init_561]
  refine ⟨fun hx => absurd hx (by decide), fun _ => ?_⟩
  refine ⟨n + 41, (y_Bfr h28 (show z_fr y_m28 1537 40 = some 41 from by rw [y_fe28]; exact y_f1537)), ?_⟩
  refine ⟨by rw [(y_Bln h28 (show z_ln y_m28 41 = 2 from by rw [y_le28]; exact y_l1537))]; exact y_in (by decide), ?_⟩
  intro M29 e29
  have h29 := y_Bsai (j := 0) h28 e29 (rfl : y_m29 = z_sai y_m28 41 0 5)
  refine ⟨n + 42, (y_Bfr h29 (show z_fr y_m29 1538 40 = some 42 from by rw [y_fe29]; exact y_f1538)), ?_⟩
  refine ⟨by rw [(y_Bln h29 (show z_ln y_m29 42 = 2 from by rw [y_le29]; exact y_l1538))]; exact y_in (by decide), ?_⟩
  intro M30 e30
  have h30 := y_Bsai (j := 0) h29 e30 (rfl : y_m30 = z_sai y_m29 42 0 2)
  refine ⟨n + 43, (y_Bfr h30 (show z_fr y_m30 1539 40 = some 43 from by rw [y_fe30]; exact y_f1539)), ?_⟩
  refine ⟨by rw [(y_Bln h30 (show z_ln y_m30 43 = 2 from by rw [y_le30]; exact y_l1539))]; exact y_in (by decide), ?_⟩
  intro M31 e31
  have h31 := y_Bsai (j := 0) h30 e31 (rfl : y_m31 = z_sai y_m30 43 0 8)
  refine ⟨n + 44, (y_Bfr h31 (show z_fr y_m31 1540 40 = some 44 from by rw [y_fe31]; exact y_f1540)), ?_⟩
  refine ⟨by rw [(y_Bln h31 (show z_ln y_m31 44 = 2 from by rw [y_le31]; exact y_l1540))]; exact y_in (by decide), ?_⟩
  intro M32 e32
  have h32 := y_Bsai (j := 0) h31 e32 (rfl : y_m32 = z_sai y_m31 44 0 6)
  refine ⟨n + 84, (y_Bfr h32 (show z_fr y_m32 1607 40 = some 84 from by rw [y_fe32]; exact y_f1607)), ?_⟩
  refine ⟨by rw [(y_Bln h32 (show z_ln y_m32 84 = 2 from by rw [y_le32]; exact y_l1607))]; exact y_in (by decide), ?_⟩
  intro M33 e33
  have h33 := y_Bsai (j := 0) h32 e33 (rfl : y_m33 = z_sai y_m32 84 0 160)
  refine ⟨n + 85, (y_Bfr h33 (show z_fr y_m33 1608 40 = some 85 from by rw [y_fe33]; exact y_f1608)), ?_⟩
  refine ⟨by rw [(y_Bln h33 (show z_ln y_m33 85 = 2 from by rw [y_le33]; exact y_l1608))]; exact y_in (by decide), ?_⟩
  intro M34 e34
  have h34 := y_Bsai (j := 0) h33 e34 (rfl : y_m34 = z_sai y_m33 85 0 999999)
  refine ⟨n + 87, (y_Bfr h34 (show z_fr y_m34 1610 40 = some 87 from by rw [y_fe34]; exact y_f1610)), ?_⟩
  refine ⟨by rw [(y_Bln h34 (show z_ln y_m34 87 = 2 from by rw [y_le34]; exact y_l1610))]; exact y_in (by decide), ?_⟩
  intro M35 e35
  have h35 := y_Bsai (j := 0) h34 e35 (rfl : y_m35 = z_sai y_m34 87 0 80)
  refine ⟨n + 88, (y_Bfr h35 (show z_fr y_m35 1611 40 = some 88 from by rw [y_fe35]; exact y_f1611)), ?_⟩
  refine ⟨by rw [(y_Bln h35 (show z_ln y_m35 88 = 2 from by rw [y_le35]; exact y_l1611))]; exact y_in (by decide), ?_⟩
  intro M36 e36
  have h36 := y_Bsai (j := 0) h35 e36 (rfl : y_m36 = z_sai y_m35 88 0 20)
  refine ⟨n + 89, (y_Bfr h36 (show z_fr y_m36 1612 40 = some 89 from by rw [y_fe36]; exact y_f1612)), ?_⟩
  refine ⟨by rw [(y_Bln h36 (show z_ln y_m36 89 = 2 from by rw [y_le36]; exact y_l1612))]; exact y_in (by decide), ?_⟩
  intro M37 e37
  have h37 := y_Bsai (j := 0) h36 e37 (rfl : y_m37 = z_sai y_m36 89 0 10)
  refine ⟨n + 90, (y_Bfr h37 (show z_fr y_m37 1613 40 = some 90 from by rw [y_fe37]; exact y_f1613)), ?_⟩
  refine ⟨by rw [(y_Bln h37 (show z_ln y_m37 90 = 2 from by rw [y_le37]; exact y_l1613))]; exact y_in (by decide), ?_⟩
  intro M38 e38
  have h38 := y_Bsai (j := 0) h37 e38 (rfl : y_m38 = z_sai y_m37 90 0 10)
  refine ⟨n + 94, (y_Bfr h38 (show z_fr y_m38 1617 40 = some 94 from by rw [y_fe38]; exact y_f1617)), ?_⟩
  refine ⟨by rw [(y_Bln h38 (show z_ln y_m38 94 = 2 from by rw [y_le38]; exact y_l1617))]; exact y_in (by decide), ?_⟩
  intro M39 e39
  have h39 := y_Bsai (j := 0) h38 e39 (rfl : y_m39 = z_sai y_m38 94 0 (-1))
  refine ⟨n + 102, (y_Bfr h39 (show z_fr y_m39 1625 40 = some 102 from by rw [y_fe39]; exact y_f1625)), ?_⟩
  refine ⟨by rw [(y_Bln h39 (show z_ln y_m39 102 = 2 from by rw [y_le39]; exact y_l1625))]; exact y_in (by decide), ?_⟩
  intro M40 e40
  have h40 := y_Bsai (j := 0) h39 e40 (rfl : y_m40 = z_sai y_m39 102 0 (-1))
  intro xx ex; subst ex
  rw [P_X12_init_561]
  refine ⟨fun hx => absurd hx (by decide), fun _ => ?_⟩
  refine ⟨n + 41, (y_Bfr h40 (show z_fr y_m40 1537 40 = some 41 from by rw [y_fe40]; exact y_f1537)), ?_⟩
  refine ⟨by rw [(y_Bln h40 (show z_ln y_m40 41 = 2 from by rw [y_le40]; exact y_l1537))]; exact y_in (by decide), ?_⟩
  intro M41 e41
  have h41 := y_Bsai (j := 1) h40 e41 (rfl : y_m41 = z_sai y_m40 41 1 5)
  refine ⟨n + 42, (y_Bfr h41 (show z_fr y_m41 1538 40 = some 42 from by rw [y_fe41]; exact y_f1538)), ?_⟩
  refine ⟨by rw [(y_Bln h41 (show z_ln y_m41 42 = 2 from by rw [y_le41]; exact y_l1538))]; exact y_in (by decide), ?_⟩
  intro M42 e42
  have h42 := y_Bsai (j := 1) h41 e42 (rfl : y_m42 = z_sai y_m41 42 1 2)
  refine ⟨n + 43, (y_Bfr h42 (show z_fr y_m42 1539 40 = some 43 from by rw [y_fe42]; exact y_f1539)), ?_⟩
  refine ⟨by rw [(y_Bln h42 (show z_ln y_m42 43 = 2 from by rw [y_le42]; exact y_l1539))]; exact y_in (by decide), ?_⟩
  intro M43 e43
  have h43 := y_Bsai (j := 1) h42 e43 (rfl : y_m43 = z_sai y_m42 43 1 8)
  refine ⟨n + 44, (y_Bfr h43 (show z_fr y_m43 1540 40 = some 44 from by rw [y_fe43]; exact y_f1540)), ?_⟩
  refine ⟨by rw [(y_Bln h43 (show z_ln y_m43 44 = 2 from by rw [y_le43]; exact y_l1540))]; exact y_in (by decide), ?_⟩
  intro M44 e44
  have h44 := y_Bsai (j := 1) h43 e44 (rfl : y_m44 = z_sai y_m43 44 1 6)
  refine ⟨n + 84, (y_Bfr h44 (show z_fr y_m44 1607 40 = some 84 from by rw [y_fe44]; exact y_f1607)), ?_⟩
  refine ⟨by rw [(y_Bln h44 (show z_ln y_m44 84 = 2 from by rw [y_le44]; exact y_l1607))]; exact y_in (by decide), ?_⟩
  intro M45 e45
  have h45 := y_Bsai (j := 1) h44 e45 (rfl : y_m45 = z_sai y_m44 84 1 160)
  refine ⟨n + 85, (y_Bfr h45 (show z_fr y_m45 1608 40 = some 85 from by rw [y_fe45]; exact y_f1608)), ?_⟩
  refine ⟨by rw [(y_Bln h45 (show z_ln y_m45 85 = 2 from by rw [y_le45]; exact y_l1608))]; exact y_in (by decide), ?_⟩
  intro M46 e46
  have h46 := y_Bsai (j := 1) h45 e46 (rfl : y_m46 = z_sai y_m45 85 1 999999)
  refine ⟨n + 87, (y_Bfr h46 (show z_fr y_m46 1610 40 = some 87 from by rw [y_fe46]; exact y_f1610)), ?_⟩
  refine ⟨by rw [(y_Bln h46 (show z_ln y_m46 87 = 2 from by rw [y_le46]; exact y_l1610))]; exact y_in (by decide), ?_⟩
  intro M47 e47
  have h47 := y_Bsai (j := 1) h46 e47 (rfl : y_m47 = z_sai y_m46 87 1 80)
  refine ⟨n + 88, (y_Bfr h47 (show z_fr y_m47 1611 40 = some 88 from by rw [y_fe47]; exact y_f1611)), ?_⟩
  refine ⟨by rw [(y_Bln h47 (show z_ln y_m47 88 = 2 from by rw [y_le47]; exact y_l1611))]; exact y_in (by decide), ?_⟩
  intro M48 e48
  have h48 := y_Bsai (j := 1) h47 e48 (rfl : y_m48 = z_sai y_m47 88 1 20)
  refine ⟨n + 89, (y_Bfr h48 (show z_fr y_m48 1612 40 = some 89 from by rw [y_fe48]; exact y_f1612)), ?_⟩
  refine ⟨by rw [(y_Bln h48 (show z_ln y_m48 89 = 2 from by rw [y_le48]; exact y_l1612))]; exact y_in (by decide), ?_⟩
  intro M49 e49
  have h49 := y_Bsai (j := 1) h48 e49 (rfl : y_m49 = z_sai y_m48 89 1 10)
  refine ⟨n + 90, (y_Bfr h49 (show z_fr y_m49 1613 40 = some 90 from by rw [y_fe49]; exact y_f1613)), ?_⟩
  refine ⟨by rw [(y_Bln h49 (show z_ln y_m49 90 = 2 from by rw [y_le49]; exact y_l1613))]; exact y_in (by decide), ?_⟩
  intro M50 e50
  have h50 := y_Bsai (j := 1) h49 e50 (rfl : y_m50 = z_sai y_m49 90 1 10)
  refine ⟨n + 94, (y_Bfr h50 (show z_fr y_m50 1617 40 = some 94 from by rw [y_fe50]; exact y_f1617)), ?_⟩
  refine ⟨by rw [(y_Bln h50 (show z_ln y_m50 94 = 2 from by rw [y_le50]; exact y_l1617))]; exact y_in (by decide), ?_⟩
  intro M51 e51
  have h51 := y_Bsai (j := 1) h50 e51 (rfl : y_m51 = z_sai y_m50 94 1 (-1))
  refine ⟨n + 102, (y_Bfr h51 (show z_fr y_m51 1625 40 = some 102 from by rw [y_fe51]; exact y_f1625)), ?_⟩
  refine ⟨by rw [(y_Bln h51 (show z_ln y_m51 102 = 2 from by rw [y_le51]; exact y_l1625))]; exact y_in (by decide), ?_⟩
  intro M52 e52
  have h52 := y_Bsai (j := 1) h51 e52 (rfl : y_m52 = z_sai y_m51 102 1 (-1))
  intro xx ex; subst ex
  rw [P_X12_init_561]
  refine ⟨fun _ => ?_, fun hx => absurd (by decide) hx⟩
  refine ⟨n + 92, (y_Bfr h52 (show z_fr y_m52 1615 40 = some 92 from by rw [y_fe52]; exact y_f1615)), ?_⟩
  refine ⟨by rw [(y_Bln h52 (show z_ln y_m52 92 = 2 from by rw [y_le52]; exact y_l1615))]; exact y_in (by decide), ?_⟩
  intro M53 e53
  have h53 := y_Bsai (j := 0) h52 e53 (rfl : y_m53 = z_sai y_m52 92 0 1)
  refine ⟨5, ?_⟩
  rw [P_X12_init_674]
  refine ⟨fun hx => absurd hx (by decide), fun _ => ?_⟩
  refine ⟨n + 68, (y_Bfr h53 (show z_fr y_m53 1588 40 = some 68 from by rw [y_fe53]; exact y_f1588)), ?_⟩
  refine ⟨by rw [(y_Bln h53 (show z_ln y_m53 68 = 4 from by rw [y_le53]; exact y_l1588))]; exact y_in (by decide), ?_⟩
  intro M54 e54
  have h54 := y_Bsai (j := 0) h53 e54 (rfl : y_m54 = z_sai y_m53 68 0 40)
  intro xx ex; subst ex
  rw [P_X12_init_674]
  refine ⟨fun hx => absurd hx (by decide), fun _ => ?_⟩
  refine ⟨n + 68, (y_Bfr h54 (show z_fr y_m54 1588 40 = some 68 from by rw [y_fe54]; exact y_f1588)), ?_⟩
  refine ⟨by rw [(y_Bln h54 (show z_ln y_m54 68 = 4 from by rw [y_le54]; exact y_l1588))]; exact y_in (by decide), ?_⟩
  intro M55 e55
  have h55 := y_Bsai (j := 1) h54 e55 (rfl : y_m55 = z_sai y_m54 68 1 40)
  intro xx ex; subst ex
  rw [P_X12_init_674]
  refine ⟨fun hx => absurd hx (by decide), fun _ => ?_⟩
  refine ⟨n + 68, (y_Bfr h55 (show z_fr y_m55 1588 40 = some 68 from by rw [y_fe55]; exact y_f1588)), ?_⟩
  refine ⟨by rw [(y_Bln h55 (show z_ln y_m55 68 = 4 from by rw [y_le55]; exact y_l1588))]; exact y_in (by decide), ?_⟩
  intro M56 e56
  have h56 := y_Bsai (j := 2) h55 e56 (rfl : y_m56 = z_sai y_m55 68 2 40)
  intro xx ex; subst ex
  rw [P_X12_init_674]
  refine ⟨fun hx => absurd hx (by decide), fun _ => ?_⟩
  refine ⟨n + 68, (y_Bfr h56 (show z_fr y_m56 1588 40 = some 68 from by rw [y_fe56]; exact y_f1588)), ?_⟩
  refine ⟨by rw [(y_Bln h56 (show z_ln y_m56 68 = 4 from by rw [y_le56]; exact y_l1588))]; exact y_in (by decide), ?_⟩
  intro M57 e57
  have h57 := y_Bsai (j := 3) h56 e57 (rfl : y_m57 = z_sai y_m56 68 3 40)
  intro xx ex; subst ex
  rw [P_X12_init_674]
  refine ⟨fun _ => ?_, fun hx => absurd (by decide) hx⟩
  refine ⟨y_rm (w := 1) h57 rfl rfl, ?_⟩
  intro M58 e58
  have h58 := y_Bnwa h57 e58 (rfl : y_m58 = _)
  have z1 := y_zz h26; have z2 := y_zz h57
  rw [z1, z2]
  exact k _ h58
