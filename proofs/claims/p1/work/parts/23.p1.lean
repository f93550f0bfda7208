/-! ===== p1: one call on a fresh object ===== -/
theorem vp_eq {i : Int32} {n : Nat} : vp_in i n = (¬ i < 0 ∧ i.toNatClampNeg < n) := propext ⟨fun h => ⟨fun q => h (Or.inl q), Nat.not_le.mp fun q => h (Or.inr q)⟩, fun h q => q.elim h.1 (Nat.not_le.mpr h.2)⟩
theorem y_rmB {n b r1 k1 r2 k2 w : Nat} {M C : z_Mem} (h : y_B n M C r1 k1 r2 k2 b) (h1 : Nat.ble (k1 + 1) r1 = true) (h2 : Nat.ble (k2 + w) r2 = true) : z_room M w = True := propext ⟨fun _ => trivial, fun _ => y_rm h h1 h2⟩
theorem ib1 {p : Int32} (h0 : ¬ p = 0) (h1 : ¬ p = 1) : (p < 0) = (¬ 1 < p) := by
  rw [Int32.lt_iff_toInt_lt, Int32.lt_iff_toInt_lt]
  rw [← Int32.toInt_inj] at h0 h1
  have e0 : (0 : Int32).toInt = 0 := rfl
  have e1 : (1 : Int32).toInt = 1 := rfl
  apply propext; omega
theorem ib2 {p : Int32} (h0 : ¬ p = 0) (h1 : ¬ p = 1) (h2 : ¬ p = 2) : (p < 0) = (¬ 2 < p) := by
  rw [Int32.lt_iff_toInt_lt, Int32.lt_iff_toInt_lt]
  rw [← Int32.toInt_inj] at h0 h1 h2
  have e0 : (0 : Int32).toInt = 0 := rfl
  have e1 : (1 : Int32).toInt = 1 := rfl
  have e2 : (2 : Int32).toInt = 2 := rfl
  apply propext; omega
theorem ib3 {p : Int32} (h0 : ¬ p = 0) (h1 : ¬ p = 1) (h2 : ¬ p = 2) (h3 : ¬ p = 3) : (p < 0) = (¬ 3 < p) := by
  rw [Int32.lt_iff_toInt_lt, Int32.lt_iff_toInt_lt]
  rw [← Int32.toInt_inj] at h0 h1 h2 h3
  have e0 : (0 : Int32).toInt = 0 := rfl
  have e1 : (1 : Int32).toInt = 1 := rfl
  have e2 : (2 : Int32).toInt = 2 := rfl
  have e3 : (3 : Int32).toInt = 3 := rfl
  apply propext; omega
theorem ib4 {p : Int32} (h0 : ¬ p = 0) (h1 : ¬ p = 1) (h2 : ¬ p = 2) (h3 : ¬ p = 3) (h4 : ¬ p = 4) : (p < 0) = (¬ 4 < p) := by
  rw [Int32.lt_iff_toInt_lt, Int32.lt_iff_toInt_lt]
  rw [← Int32.toInt_inj] at h0 h1 h2 h3 h4
  have e0 : (0 : Int32).toInt = 0 := rfl
  have e1 : (1 : Int32).toInt = 1 := rfl
  have e2 : (2 : Int32).toInt = 2 := rfl
  have e3 : (3 : Int32).toInt = 3 := rfl
  have e4 : (4 : Int32).toInt = 4 := rfl
  apply propext; omega
theorem ib5 {p : Int32} (h0 : ¬ p = 0) (h1 : ¬ p = 1) (h2 : ¬ p = 2) (h3 : ¬ p = 3) (h4 : ¬ p = 4) (h5 : ¬ p = 5) : (p < 0) = (¬ 5 < p) := by
  rw [Int32.lt_iff_toInt_lt, Int32.lt_iff_toInt_lt]
  rw [← Int32.toInt_inj] at h0 h1 h2 h3 h4 h5
  have e0 : (0 : Int32).toInt = 0 := rfl
  have e1 : (1 : Int32).toInt = 1 := rfl
  have e2 : (2 : Int32).toInt = 2 := rfl
  have e3 : (3 : Int32).toInt = 3 := rfl
  have e4 : (4 : Int32).toInt = 4 := rfl
  have e5 : (5 : Int32).toInt = 5 := rfl
  apply propext; omega
theorem ib6 {p : Int32} (h0 : ¬ p = 0) (h1 : ¬ p = 1) (h2 : ¬ p = 2) (h3 : ¬ p = 3) (h4 : ¬ p = 4) (h5 : ¬ p = 5) (h6 : ¬ p = 6) : (p < 0) = (¬ 6 < p) := by
  rw [Int32.lt_iff_toInt_lt, Int32.lt_iff_toInt_lt]
  rw [← Int32.toInt_inj] at h0 h1 h2 h3 h4 h5 h6
  have e0 : (0 : Int32).toInt = 0 := rfl
  have e1 : (1 : Int32).toInt = 1 := rfl
  have e2 : (2 : Int32).toInt = 2 := rfl
  have e3 : (3 : Int32).toInt = 3 := rfl
  have e4 : (4 : Int32).toInt = 4 := rfl
  have e5 : (5 : Int32).toInt = 5 := rfl
  have e6 : (6 : Int32).toInt = 6 := rfl
  apply propext; omega
theorem ib8 {p : Int32} (h0 : ¬ p = 0) (h1 : ¬ p = 1) (h2 : ¬ p = 2) (h3 : ¬ p = 3) (h4 : ¬ p = 4) (h5 : ¬ p = 5) (h6 : ¬ p = 6) (h7 : ¬ p = 7) (h8 : ¬ p = 8) : (p < 0) = (¬ 8 < p) := by
  rw [Int32.lt_iff_toInt_lt, Int32.lt_iff_toInt_lt]
  rw [← Int32.toInt_inj] at h0 h1 h2 h3 h4 h5 h6 h7 h8
  have e0 : (0 : Int32).toInt = 0 := rfl
  have e1 : (1 : Int32).toInt = 1 := rfl
  have e2 : (2 : Int32).toInt = 2 := rfl
  have e3 : (3 : Int32).toInt = 3 := rfl
  have e4 : (4 : Int32).toInt = 4 := rfl
  have e5 : (5 : Int32).toInt = 5 := rfl
  have e6 : (6 : Int32).toInt = 6 := rfl
  have e7 : (7 : Int32).toInt = 7 := rfl
  have e8 : (8 : Int32).toInt = 8 := rfl
  apply propext; omega
theorem ib9 {p : Int32} (h0 : ¬ p = 0) (h1 : ¬ p = 1) (h2 : ¬ p = 2) (h3 : ¬ p = 3) (h4 : ¬ p = 4) (h5 : ¬ p = 5) (h6 : ¬ p = 6) (h7 : ¬ p = 7) (h8 : ¬ p = 8) (h9 : ¬ p = 9) : (p < 0) = (¬ 9 < p) := by
  rw [Int32.lt_iff_toInt_lt, Int32.lt_iff_toInt_lt]
  rw [← Int32.toInt_inj] at h0 h1 h2 h3 h4 h5 h6 h7 h8 h9
  have e0 : (0 : Int32).toInt = 0 := rfl
  have e1 : (1 : Int32).toInt = 1 := rfl
  have e2 : (2 : Int32).toInt = 2 := rfl
  have e3 : (3 : Int32).toInt = 3 := rfl
  have e4 : (4 : Int32).toInt = 4 := rfl
  have e5 : (5 : Int32).toInt = 5 := rfl
  have e6 : (6 : Int32).toInt = 6 := rfl
  have e7 : (7 : Int32).toInt = 7 := rfl
  have e8 : (8 : Int32).toInt = 8 := rfl
  have e9 : (9 : Int32).toInt = 9 := rfl
  apply propext; omega
theorem ib10 {p : Int32} (h0 : ¬ p = 0) (h1 : ¬ p = 1) (h2 : ¬ p = 2) (h3 : ¬ p = 3) (h4 : ¬ p = 4) (h5 : ¬ p = 5) (h6 : ¬ p = 6) (h7 : ¬ p = 7) (h8 : ¬ p = 8) (h9 : ¬ p = 9) (h10 : ¬ p = 10) : (p < 0) = (¬ 10 < p) := by
  rw [Int32.lt_iff_toInt_lt, Int32.lt_iff_toInt_lt]
  rw [← Int32.toInt_inj] at h0 h1 h2 h3 h4 h5 h6 h7 h8 h9 h10
  have e0 : (0 : Int32).toInt = 0 := rfl
  have e1 : (1 : Int32).toInt = 1 := rfl
  have e2 : (2 : Int32).toInt = 2 := rfl
  have e3 : (3 : Int32).toInt = 3 := rfl
  have e4 : (4 : Int32).toInt = 4 := rfl
  have e5 : (5 : Int32).toInt = 5 := rfl
  have e6 : (6 : Int32).toInt = 6 := rfl
  have e7 : (7 : Int32).toInt = 7 := rfl
  have e8 : (8 : Int32).toInt = 8 := rfl
  have e9 : (9 : Int32).toInt = 9 := rfl
  have e10 : (10 : Int32).toInt = 10 := rfl
  apply propext; omega
theorem i_le {a b : Int32} : (a ≤ b) = (¬ b < a) := propext ⟨fun h => Int32.not_lt.mpr h, fun h => Int32.not_lt.mp h⟩
theorem i_lt4 {p : Int32} : (p < 4) = (¬ 3 < p) := by
  rw [Int32.lt_iff_toInt_lt, Int32.lt_iff_toInt_lt]
  have e4 : (4 : Int32).toInt = 4 := rfl
  have e3 : (3 : Int32).toInt = 3 := rfl
  apply propext; omega
theorem i_pos {p : Int32} (h : ¬ p < 1) : (p < 0) = False := by
  rw [Int32.lt_iff_toInt_lt] at *
  have e4 : (1 : Int32).toInt = 1 := rfl
  have e3 : (0 : Int32).toInt = 0 := rfl
  exact eq_false (by omega)
theorem i_pos2 {p : Int32} (h : ¬ p < 1) : (0 < p) = True := by
  rw [Int32.lt_iff_toInt_lt] at *
  have e4 : (1 : Int32).toInt = 1 := rfl
  have e3 : (0 : Int32).toInt = 0 := rfl
  exact eq_true (by omega)
theorem i_m1 {p : Int32} : (0 - 1 < p) = (¬ p < 0) := by
  rw [Int32.lt_iff_toInt_lt, Int32.lt_iff_toInt_lt]
  have e4 : (0 - 1 : Int32).toInt = -1 := rfl
  have e3 : (0 : Int32).toInt = 0 := rfl
  apply propext; omega
theorem i_cell1 : ((0 : Int32) + 1).toNatClampNeg = 1 := rfl
theorem i_cell2 : ((0 : Int32) + 2).toNatClampNeg = 2 := rfl
theorem i_cell3 : ((0 : Int32) + 3).toNatClampNeg = 3 := rfl
theorem i_cell4 : ((0 : Int32) + 4).toNatClampNeg = 4 := rfl
theorem i_cell5 : ((0 : Int32) + 5).toNatClampNeg = 5 := rfl
theorem i_cell0 : (0 : Int32).toNatClampNeg = 0 := rfl
theorem i_n1 : (1 : Int32).toNatClampNeg = 1 := rfl
theorem i_n2 : (2 : Int32).toNatClampNeg = 2 := rfl
theorem i_n3 : (3 : Int32).toNatClampNeg = 3 := rfl
abbrev y_Post : Int32 → z_Mem → Prop := fun x _ => x = 1
abbrev y_J (xs : Nat → Int32) : Option Nat → Option Nat → Option Nat → Int32 → z_Mem → Prop := fun q0 q1 q2 q3 qM => P_L_law_23 6 xs y_Post 1 q0 q1 q2 q3 qM
set_option maxRecDepth 100000 in
set_option maxHeartbeats 4000000 in
theorem yl8_0 {n : Nat} {M : z_Mem} {xs : Nat → Int32} (h : y_B n M y_m58 600002 108 7302232 89908 108) (fin : ∀ M1, P_L_law_1514 6 xs y_Post (fun q0 q1 q2 q3 qM => P_L_law_23 6 xs y_Post 1 q0 q1 q2 q3 qM) (some (n + 0)) (some (n + 40)) (some (n + 107)) 0 M1 = True) (r5 : z_room M 5 = True) (r6 : z_room M 6 = True) (r8 : z_room M 8 = True) (hS : y_S n M) (hSx : ∀ k w, y_S n (z_exc M k w) = True) (hsz : z_sz M = n + 108) (r1a : xs 1 < (-1)) : ((vp_in (0 + 1) 6) ∧ (P_L_connect (some (n + 0)) (xs ((0 + 1) : Int32).toNatClampNeg) M (fun x_102 M_102 => ((vp_in (0 + 1) 6) ∧ (z_nn (some (n + 40)) (fun a105 => (P_X12_connect a105 (xs ((0 + 1) : Int32).toNatClampNeg) M_102 (fun M_104 => (P_X12_thrown a105 M_104 (fun x_106 M_106 => (((x_106 = x_102) → (P_L_law_1514 6 xs y_Post (fun q0 q1 q2 q3 qM => (P_L_law_23 6 xs y_Post 1 q0 q1 q2 q3 qM)) (some (n + 0)) (some (n + 40)) (some (n + 107)) 0 M_106)) ∧ ((¬ (x_106 = x_102)) → (y_Post 0 M_106))))))))))))) := by
  simp only [↓y_ite, ↓reduceIte, Nat.reduceEqDiff, Nat.reduceLT, Nat.reduceAdd, reduceCtorEq, i_lt4, i_m1, i_pos, i_pos2, ↓e_inFlight, ↓e_changeKey, ↓e_canChange, ↓e_gotOf, ↓e_stream, ↓e_gotAnew, ↓e_inFlightAnew, ↓e_gotAnewC, ↓e_prefix, ↓e_clear200, ↓e_clear400, ↓e_lose, r1a, ↓P_L_connect, ↓P_X11_connect, ↓P_X11_requireRange, ↓P_X11_requireState, ↓P_X1_beginHello, ↓P_X1_sayHello, ↓P_X4_init, ↓P_X5_putToServer, ↓P_X5_laneOf, ↓P_X3_letsToServer, ↓P_X3_hasRoom, ↓P_X3_append, ↓P_X5_putToServer_48, ↓P_X5_putToServer_49, ↓P_X12_connect, ↓P_X12_in, ↓P_X12_connect_20, ↓P_X12_goes, ↓P_X12_saysHello, ↓P_X12_puts, ↓P_X12_puts_35, ↓P_X12_puts_60, ↓P_X12_puts_110, ↓P_X12_puts_111, ↓P_X12_puts_55, ↓P_X12_thrown, h.1.2.2.1, h.1.2.2.2.1, h.1.2.1, h.1.2.2.2.2.1, h.1.2.2.2.2.2.1, h.1.2.2.2.2.2.2.1, y_cc, ↓z_nn_some, ↓forall_eq, hS, hSx, hsz, S_new, qr_sfi, q_sfi, q_sai, q_sal, Option.map_some, Option.map_none, i_le, i_cell0, i_cell1, i_cell2, i_cell3, i_cell4, i_cell5, i_n1, i_n2, i_n3, and_true, true_and, if_true, if_false, not_true, not_false_iff, Bool.false_eq_true, implies_true, true_implies, false_implies, false_or, or_false, true_or, or_true, false_and, and_false, forall_const, r5, r6, r8, fin, ite_self, Int32.zero_add, Int32.add_zero, Int32.sub_self, ↓nn_1411_0, ↓nn_640_1, ↓nn_641_1, ↓nn_393_2, ↓nn_393_4, ↓nn_128_31, ↓nn_1539_40, ↓nn_1540_40, ↓nn_1541_40, ↓nn_1542_40, ↓nn_1546_40, ↓nn_1547_40, ↓nn_1548_40, ↓nn_1549_40, ↓nn_1550_40, ↓nn_1599_40, ↓nn_1603_40, ↓nn_1629_40, y_r1411_0, y_r640_1, y_r641_1, y_i645_1, y_i386_2, y_i387_2, y_i388_2, y_i389_2, y_r393_2, y_i394_2, y_i395_2, y_l_3, y_i386_4, y_i387_4, y_i388_4, y_i389_4, y_r393_4, y_i394_4, y_i395_4, y_l_5, y_i512_10, y_i513_10, y_r515_10, y_i517_10, y_i518_10, y_r128_31, y_i135_31, y_i136_31, y_i137_31, y_i138_31, y_i139_31, y_i1536_40, y_r1539_40, y_r1540_40, y_r1541_40, y_r1542_40, y_r1546_40, y_r1547_40, y_r1548_40, y_r1549_40, y_r1550_40, y_i1551_40, y_i1577_40, y_i1578_40, y_i1579_40, y_i1580_40, y_i1581_40, y_r1599_40, y_r1603_40, y_r1629_40, y_i1630_40, y_l_43, y_a43_0, y_a43_1, y_l_44, y_a44_0, y_a44_1, y_l_45, y_a45_0, y_a45_1, y_l_46, y_a46_0, y_a46_1, y_l_50, y_z50, y_l_51, y_a51_0, y_a51_1, y_l_52, y_z52, y_l_53, y_z53, y_l_54, y_z54, y_l_77, y_z77, y_l_81, y_z81, y_l_106, y_a106_0, y_a106_1, y_a106_2, y_a106_3, y_a106_4, y_a106_5, y_l_107, y_q0, y_q1, y_q2, y_q3, zq_fi_exc, zq_fr_exc, zq_ln_exc, zq_ai_exc, zq_ar_exc, zq_al_exc, zq_sz_exc, zq_fi_new, zq_fr_new, zq_ln_new, zq_ai_new, zq_ar_new, zq_al_new, zq_sz_new, zq_fi_sai, zq_fr_sai, zq_ln_sai, zq_ai_sai, zq_ar_sai, zq_al_sai, zq_sz_sai, zq_fi_sal, zq_fr_sal, zq_ln_sal, zq_ai_sal, zq_ar_sal, zq_al_sal, zq_sz_sal, zq_fi_sar, zq_fr_sar, zq_ln_sar, zq_ai_sar, zq_ar_sar, zq_al_sar, zq_sz_sar, zq_fi_sfi, zq_fr_sfi, zq_ln_sfi, zq_ai_sfi, zq_ar_sfi, zq_al_sfi, zq_sz_sfi, ie_m1_m1, ie_m1_0, ie_m1_1, ie_m1_2, ie_m1_3, ie_m1_6, ie_0_m1, ie_0_0, ie_0_1, ie_0_2, ie_0_3, ie_0_6, ie_1_m1, ie_1_0, ie_1_1, ie_1_2, ie_1_3, ie_1_6, ie_2_m1, ie_2_0, ie_2_1, ie_2_2, ie_2_3, ie_2_6, ie_3_m1, ie_3_0, ie_3_1, ie_3_2, ie_3_3, ie_3_6, ie_6_m1, ie_6_0, ie_6_1, ie_6_2, ie_6_3, ie_6_6, il_m1_m1, il_m1_0, il_m1_1, il_m1_2, il_m1_3, il_m1_6, il_m1_20, il_m1_30, il_m1_50, il_m1_200, il_m1_400, il_m1_2000, il_0_m1, il_0_0, il_0_1, il_0_2, il_0_3, il_0_6, il_0_20, il_0_30, il_0_50, il_0_200, il_0_400, il_0_2000, il_1_m1, il_1_0, il_1_1, il_1_2, il_1_3, il_1_6, il_1_20, il_1_30, il_1_50, il_1_200, il_1_400, il_1_2000, il_2_m1, il_2_0, il_2_1, il_2_2, il_2_3, il_2_6, il_2_20, il_2_30, il_2_50, il_2_200, il_2_400, il_2_2000, il_3_m1, il_3_0, il_3_1, il_3_2, il_3_3, il_3_6, il_3_20, il_3_30, il_3_50, il_3_200, il_3_400, il_3_2000, il_6_m1, il_6_0, il_6_1, il_6_2, il_6_3, il_6_6, il_6_20, il_6_30, il_6_50, il_6_200, il_6_400, il_6_2000, il_20_m1, il_20_0, il_20_1, il_20_2, il_20_3, il_20_6, il_20_20, il_20_30, il_20_50, il_20_200, il_20_400, il_20_2000, il_30_m1, il_30_0, il_30_1, il_30_2, il_30_3, il_30_6, il_30_20, il_30_30, il_30_50, il_30_200, il_30_400, il_30_2000, il_50_m1, il_50_0, il_50_1, il_50_2, il_50_3, il_50_6, il_50_20, il_50_30, il_50_50, il_50_200, il_50_400, il_50_2000, il_200_m1, il_200_0, il_200_1, il_200_2, il_200_3, il_200_6, il_200_20, il_200_30, il_200_50, il_200_200, il_200_400, il_200_2000, il_400_m1, il_400_0, il_400_1, il_400_2, il_400_3, il_400_6, il_400_20, il_400_30, il_400_50, il_400_200, il_400_400, il_400_2000, il_2000_m1, il_2000_0, il_2000_1, il_2000_2, il_2000_3, il_2000_6, il_2000_20, il_2000_30, il_2000_50, il_2000_200, il_2000_400, il_2000_2000, in_0, in_1, in_2, in_3, in_6, it_4, it_5, it_6, it_7, it_8, it_9, it_10, vt_0_1, vt_0_2, vt_1_2, vt_0_4, vt_1_4, vt_2_4, vt_3_4, vt_0_6, vt_1_6, vt_2_6, vt_3_6, vt_4_6, vt_5_6, vt_0_60, vt_0_1300, vt_0_800, vt_0_200, vt_0_400, vu_1, vu_2, vu_3, vu_4, vu_5, lg_refl, vt_200_800, vt_400_800, vt_600_800, vt_im_0, vt_im_1, vt_im_2, vt_im_3, vt_0_30, vt_d0, vt_m0, vt_m1, vt_m2, vt_30_60]
set_option maxRecDepth 100000 in
set_option maxHeartbeats 4000000 in
theorem yl8_1 {n : Nat} {M : z_Mem} {xs : Nat → Int32} (h : y_B n M y_m58 600002 108 7302232 89908 108) (fin : ∀ M1, P_L_law_1514 6 xs y_Post (fun q0 q1 q2 q3 qM => P_L_law_23 6 xs y_Post 1 q0 q1 q2 q3 qM) (some (n + 0)) (some (n + 40)) (some (n + 107)) 0 M1 = True) (r5 : z_room M 5 = True) (r6 : z_room M 6 = True) (r8 : z_room M 8 = True) (hS : y_S n M) (hSx : ∀ k w, y_S n (z_exc M k w) = True) (hsz : z_sz M = n + 108) (r1a : ¬ xs 1 < (-1)) (r1b : 9 < xs 1) : ((vp_in (0 + 1) 6) ∧ (P_L_connect (some (n + 0)) (xs ((0 + 1) : Int32).toNatClampNeg) M (fun x_102 M_102 => ((vp_in (0 + 1) 6) ∧ (z_nn (some (n + 40)) (fun a105 => (P_X12_connect a105 (xs ((0 + 1) : Int32).toNatClampNeg) M_102 (fun M_104 => (P_X12_thrown a105 M_104 (fun x_106 M_106 => (((x_106 = x_102) → (P_L_law_1514 6 xs y_Post (fun q0 q1 q2 q3 qM => (P_L_law_23 6 xs y_Post 1 q0 q1 q2 q3 qM)) (some (n + 0)) (some (n + 40)) (some (n + 107)) 0 M_106)) ∧ ((¬ (x_106 = x_102)) → (y_Post 0 M_106))))))))))))) := by
  simp only [↓y_ite, ↓reduceIte, Nat.reduceEqDiff, Nat.reduceLT, Nat.reduceAdd, reduceCtorEq, i_lt4, i_m1, i_pos, i_pos2, ↓e_inFlight, ↓e_changeKey, ↓e_canChange, ↓e_gotOf, ↓e_stream, ↓e_gotAnew, ↓e_inFlightAnew, ↓e_gotAnewC, ↓e_prefix, ↓e_clear200, ↓e_clear400, ↓e_lose, r1a, r1b, ↓P_L_connect, ↓P_X11_connect, ↓P_X11_requireRange, ↓P_X11_requireState, ↓P_X1_beginHello, ↓P_X1_sayHello, ↓P_X4_init, ↓P_X5_putToServer, ↓P_X5_laneOf, ↓P_X3_letsToServer, ↓P_X3_hasRoom, ↓P_X3_append, ↓P_X5_putToServer_48, ↓P_X5_putToServer_49, ↓P_X12_connect, ↓P_X12_in, ↓P_X12_connect_20, ↓P_X12_goes, ↓P_X12_saysHello, ↓P_X12_puts, ↓P_X12_puts_35, ↓P_X12_puts_60, ↓P_X12_puts_110, ↓P_X12_puts_111, ↓P_X12_puts_55, ↓P_X12_thrown, h.1.2.2.1, h.1.2.2.2.1, h.1.2.1, h.1.2.2.2.2.1, h.1.2.2.2.2.2.1, h.1.2.2.2.2.2.2.1, y_cc, ↓z_nn_some, ↓forall_eq, hS, hSx, hsz, S_new, qr_sfi, q_sfi, q_sai, q_sal, Option.map_some, Option.map_none, i_le, i_cell0, i_cell1, i_cell2, i_cell3, i_cell4, i_cell5, i_n1, i_n2, i_n3, and_true, true_and, if_true, if_false, not_true, not_false_iff, Bool.false_eq_true, implies_true, true_implies, false_implies, false_or, or_false, true_or, or_true, false_and, and_false, forall_const, r5, r6, r8, fin, ite_self, Int32.zero_add, Int32.add_zero, Int32.sub_self, ↓nn_1411_0, ↓nn_640_1, ↓nn_641_1, ↓nn_393_2, ↓nn_393_4, ↓nn_128_31, ↓nn_1539_40, ↓nn_1540_40, ↓nn_1541_40, ↓nn_1542_40, ↓nn_1546_40, ↓nn_1547_40, ↓nn_1548_40, ↓nn_1549_40, ↓nn_1550_40, ↓nn_1599_40, ↓nn_1603_40, ↓nn_1629_40, y_r1411_0, y_r640_1, y_r641_1, y_i645_1, y_i386_2, y_i387_2, y_i388_2, y_i389_2, y_r393_2, y_i394_2, y_i395_2, y_l_3, y_i386_4, y_i387_4, y_i388_4, y_i389_4, y_r393_4, y_i394_4, y_i395_4, y_l_5, y_i512_10, y_i513_10, y_r515_10, y_i517_10, y_i518_10, y_r128_31, y_i135_31, y_i136_31, y_i137_31, y_i138_31, y_i139_31, y_i1536_40, y_r1539_40, y_r1540_40, y_r1541_40, y_r1542_40, y_r1546_40, y_r1547_40, y_r1548_40, y_r1549_40, y_r1550_40, y_i1551_40, y_i1577_40, y_i1578_40, y_i1579_40, y_i1580_40, y_i1581_40, y_r1599_40, y_r1603_40, y_r1629_40, y_i1630_40, y_l_43, y_a43_0, y_a43_1, y_l_44, y_a44_0, y_a44_1, y_l_45, y_a45_0, y_a45_1, y_l_46, y_a46_0, y_a46_1, y_l_50, y_z50, y_l_51, y_a51_0, y_a51_1, y_l_52, y_z52, y_l_53, y_z53, y_l_54, y_z54, y_l_77, y_z77, y_l_81, y_z81, y_l_106, y_a106_0, y_a106_1, y_a106_2, y_a106_3, y_a106_4, y_a106_5, y_l_107, y_q0, y_q1, y_q2, y_q3, zq_fi_exc, zq_fr_exc, zq_ln_exc, zq_ai_exc, zq_ar_exc, zq_al_exc, zq_sz_exc, zq_fi_new, zq_fr_new, zq_ln_new, zq_ai_new, zq_ar_new, zq_al_new, zq_sz_new, zq_fi_sai, zq_fr_sai, zq_ln_sai, zq_ai_sai, zq_ar_sai, zq_al_sai, zq_sz_sai, zq_fi_sal, zq_fr_sal, zq_ln_sal, zq_ai_sal, zq_ar_sal, zq_al_sal, zq_sz_sal, zq_fi_sar, zq_fr_sar, zq_ln_sar, zq_ai_sar, zq_ar_sar, zq_al_sar, zq_sz_sar, zq_fi_sfi, zq_fr_sfi, zq_ln_sfi, zq_ai_sfi, zq_ar_sfi, zq_al_sfi, zq_sz_sfi, ie_m1_m1, ie_m1_0, ie_m1_1, ie_m1_2, ie_m1_3, ie_m1_6, ie_0_m1, ie_0_0, ie_0_1, ie_0_2, ie_0_3, ie_0_6, ie_1_m1, ie_1_0, ie_1_1, ie_1_2, ie_1_3, ie_1_6, ie_2_m1, ie_2_0, ie_2_1, ie_2_2, ie_2_3, ie_2_6, ie_3_m1, ie_3_0, ie_3_1, ie_3_2, ie_3_3, ie_3_6, ie_6_m1, ie_6_0, ie_6_1, ie_6_2, ie_6_3, ie_6_6, il_m1_m1, il_m1_0, il_m1_1, il_m1_2, il_m1_3, il_m1_6, il_m1_20, il_m1_30, il_m1_50, il_m1_200, il_m1_400, il_m1_2000, il_0_m1, il_0_0, il_0_1, il_0_2, il_0_3, il_0_6, il_0_20, il_0_30, il_0_50, il_0_200, il_0_400, il_0_2000, il_1_m1, il_1_0, il_1_1, il_1_2, il_1_3, il_1_6, il_1_20, il_1_30, il_1_50, il_1_200, il_1_400, il_1_2000, il_2_m1, il_2_0, il_2_1, il_2_2, il_2_3, il_2_6, il_2_20, il_2_30, il_2_50, il_2_200, il_2_400, il_2_2000, il_3_m1, il_3_0, il_3_1, il_3_2, il_3_3, il_3_6, il_3_20, il_3_30, il_3_50, il_3_200, il_3_400, il_3_2000, il_6_m1, il_6_0, il_6_1, il_6_2, il_6_3, il_6_6, il_6_20, il_6_30, il_6_50, il_6_200, il_6_400, il_6_2000, il_20_m1, il_20_0, il_20_1, il_20_2, il_20_3, il_20_6, il_20_20, il_20_30, il_20_50, il_20_200, il_20_400, il_20_2000, il_30_m1, il_30_0, il_30_1, il_30_2, il_30_3, il_30_6, il_30_20, il_30_30, il_30_50, il_30_200, il_30_400, il_30_2000, il_50_m1, il_50_0, il_50_1, il_50_2, il_50_3, il_50_6, il_50_20, il_50_30, il_50_50, il_50_200, il_50_400, il_50_2000, il_200_m1, il_200_0, il_200_1, il_200_2, il_200_3, il_200_6, il_200_20, il_200_30, il_200_50, il_200_200, il_200_400, il_200_2000, il_400_m1, il_400_0, il_400_1, il_400_2, il_400_3, il_400_6, il_400_20, il_400_30, il_400_50, il_400_200, il_400_400, il_400_2000, il_2000_m1, il_2000_0, il_2000_1, il_2000_2, il_2000_3, il_2000_6, il_2000_20, il_2000_30, il_2000_50, il_2000_200, il_2000_400, il_2000_2000, in_0, in_1, in_2, in_3, in_6, it_4, it_5, it_6, it_7, it_8, it_9, it_10, vt_0_1, vt_0_2, vt_1_2, vt_0_4, vt_1_4, vt_2_4, vt_3_4, vt_0_6, vt_1_6, vt_2_6, vt_3_6, vt_4_6, vt_5_6, vt_0_60, vt_0_1300, vt_0_800, vt_0_200, vt_0_400, vu_1, vu_2, vu_3, vu_4, vu_5, lg_refl, vt_200_800, vt_400_800, vt_600_800, vt_im_0, vt_im_1, vt_im_2, vt_im_3, vt_0_30, vt_d0, vt_m0, vt_m1, vt_m2, vt_30_60]
set_option maxRecDepth 100000 in
set_option maxHeartbeats 4000000 in
theorem yl8_2 {n : Nat} {M : z_Mem} {xs : Nat → Int32} (h : y_B n M y_m58 600002 108 7302232 89908 108) (fin : ∀ M1, P_L_law_1514 6 xs y_Post (fun q0 q1 q2 q3 qM => P_L_law_23 6 xs y_Post 1 q0 q1 q2 q3 qM) (some (n + 0)) (some (n + 40)) (some (n + 107)) 0 M1 = True) (r5 : z_room M 5 = True) (r6 : z_room M 6 = True) (r8 : z_room M 8 = True) (hS : y_S n M) (hSx : ∀ k w, y_S n (z_exc M k w) = True) (hsz : z_sz M = n + 108) (r1a : ¬ xs 1 < (-1)) (r1b : ¬ 9 < xs 1) : ((vp_in (0 + 1) 6) ∧ (P_L_connect (some (n + 0)) (xs ((0 + 1) : Int32).toNatClampNeg) M (fun x_102 M_102 => ((vp_in (0 + 1) 6) ∧ (z_nn (some (n + 40)) (fun a105 => (P_X12_connect a105 (xs ((0 + 1) : Int32).toNatClampNeg) M_102 (fun M_104 => (P_X12_thrown a105 M_104 (fun x_106 M_106 => (((x_106 = x_102) → (P_L_law_1514 6 xs y_Post (fun q0 q1 q2 q3 qM => (P_L_law_23 6 xs y_Post 1 q0 q1 q2 q3 qM)) (some (n + 0)) (some (n + 40)) (some (n + 107)) 0 M_106)) ∧ ((¬ (x_106 = x_102)) → (y_Post 0 M_106))))))))))))) := by
  simp only [↓y_ite, ↓reduceIte, Nat.reduceEqDiff, Nat.reduceLT, Nat.reduceAdd, reduceCtorEq, i_lt4, i_m1, i_pos, i_pos2, ↓e_inFlight, ↓e_changeKey, ↓e_canChange, ↓e_gotOf, ↓e_stream, ↓e_gotAnew, ↓e_inFlightAnew, ↓e_gotAnewC, ↓e_prefix, ↓e_clear200, ↓e_clear400, ↓e_lose, r1a, r1b, ↓P_L_connect, ↓P_X11_connect, ↓P_X11_requireRange, ↓P_X11_requireState, ↓P_X1_beginHello, ↓P_X1_sayHello, ↓P_X4_init, ↓P_X5_putToServer, ↓P_X5_laneOf, ↓P_X3_letsToServer, ↓P_X3_hasRoom, ↓P_X3_append, ↓P_X5_putToServer_48, ↓P_X5_putToServer_49, ↓P_X12_connect, ↓P_X12_in, ↓P_X12_connect_20, ↓P_X12_goes, ↓P_X12_saysHello, ↓P_X12_puts, ↓P_X12_puts_35, ↓P_X12_puts_60, ↓P_X12_puts_110, ↓P_X12_puts_111, ↓P_X12_puts_55, ↓P_X12_thrown, h.1.2.2.1, h.1.2.2.2.1, h.1.2.1, h.1.2.2.2.2.1, h.1.2.2.2.2.2.1, h.1.2.2.2.2.2.2.1, y_cc, ↓z_nn_some, ↓forall_eq, hS, hSx, hsz, S_new, qr_sfi, q_sfi, q_sai, q_sal, Option.map_some, Option.map_none, i_le, i_cell0, i_cell1, i_cell2, i_cell3, i_cell4, i_cell5, i_n1, i_n2, i_n3, and_true, true_and, if_true, if_false, not_true, not_false_iff, Bool.false_eq_true, implies_true, true_implies, false_implies, false_or, or_false, true_or, or_true, false_and, and_false, forall_const, r5, r6, r8, fin, ite_self, Int32.zero_add, Int32.add_zero, Int32.sub_self, ↓nn_1411_0, ↓nn_640_1, ↓nn_641_1, ↓nn_393_2, ↓nn_393_4, ↓nn_128_31, ↓nn_1539_40, ↓nn_1540_40, ↓nn_1541_40, ↓nn_1542_40, ↓nn_1546_40, ↓nn_1547_40, ↓nn_1548_40, ↓nn_1549_40, ↓nn_1550_40, ↓nn_1599_40, ↓nn_1603_40, ↓nn_1629_40, y_r1411_0, y_r640_1, y_r641_1, y_i645_1, y_i386_2, y_i387_2, y_i388_2, y_i389_2, y_r393_2, y_i394_2, y_i395_2, y_l_3, y_i386_4, y_i387_4, y_i388_4, y_i389_4, y_r393_4, y_i394_4, y_i395_4, y_l_5, y_i512_10, y_i513_10, y_r515_10, y_i517_10, y_i518_10, y_r128_31, y_i135_31, y_i136_31, y_i137_31, y_i138_31, y_i139_31, y_i1536_40, y_r1539_40, y_r1540_40, y_r1541_40, y_r1542_40, y_r1546_40, y_r1547_40, y_r1548_40, y_r1549_40, y_r1550_40, y_i1551_40, y_i1577_40, y_i1578_40, y_i1579_40, y_i1580_40, y_i1581_40, y_r1599_40, y_r1603_40, y_r1629_40, y_i1630_40, y_l_43, y_a43_0, y_a43_1, y_l_44, y_a44_0, y_a44_1, y_l_45, y_a45_0, y_a45_1, y_l_46, y_a46_0, y_a46_1, y_l_50, y_z50, y_l_51, y_a51_0, y_a51_1, y_l_52, y_z52, y_l_53, y_z53, y_l_54, y_z54, y_l_77, y_z77, y_l_81, y_z81, y_l_106, y_a106_0, y_a106_1, y_a106_2, y_a106_3, y_a106_4, y_a106_5, y_l_107, y_q0, y_q1, y_q2, y_q3, zq_fi_exc, zq_fr_exc, zq_ln_exc, zq_ai_exc, zq_ar_exc, zq_al_exc, zq_sz_exc, zq_fi_new, zq_fr_new, zq_ln_new, zq_ai_new, zq_ar_new, zq_al_new, zq_sz_new, zq_fi_sai, zq_fr_sai, zq_ln_sai, zq_ai_sai, zq_ar_sai, zq_al_sai, zq_sz_sai, zq_fi_sal, zq_fr_sal, zq_ln_sal, zq_ai_sal, zq_ar_sal, zq_al_sal, zq_sz_sal, zq_fi_sar, zq_fr_sar, zq_ln_sar, zq_ai_sar, zq_ar_sar, zq_al_sar, zq_sz_sar, zq_fi_sfi, zq_fr_sfi, zq_ln_sfi, zq_ai_sfi, zq_ar_sfi, zq_al_sfi, zq_sz_sfi, ie_m1_m1, ie_m1_0, ie_m1_1, ie_m1_2, ie_m1_3, ie_m1_6, ie_0_m1, ie_0_0, ie_0_1, ie_0_2, ie_0_3, ie_0_6, ie_1_m1, ie_1_0, ie_1_1, ie_1_2, ie_1_3, ie_1_6, ie_2_m1, ie_2_0, ie_2_1, ie_2_2, ie_2_3, ie_2_6, ie_3_m1, ie_3_0, ie_3_1, ie_3_2, ie_3_3, ie_3_6, ie_6_m1, ie_6_0, ie_6_1, ie_6_2, ie_6_3, ie_6_6, il_m1_m1, il_m1_0, il_m1_1, il_m1_2, il_m1_3, il_m1_6, il_m1_20, il_m1_30, il_m1_50, il_m1_200, il_m1_400, il_m1_2000, il_0_m1, il_0_0, il_0_1, il_0_2, il_0_3, il_0_6, il_0_20, il_0_30, il_0_50, il_0_200, il_0_400, il_0_2000, il_1_m1, il_1_0, il_1_1, il_1_2, il_1_3, il_1_6, il_1_20, il_1_30, il_1_50, il_1_200, il_1_400, il_1_2000, il_2_m1, il_2_0, il_2_1, il_2_2, il_2_3, il_2_6, il_2_20, il_2_30, il_2_50, il_2_200, il_2_400, il_2_2000, il_3_m1, il_3_0, il_3_1, il_3_2, il_3_3, il_3_6, il_3_20, il_3_30, il_3_50, il_3_200, il_3_400, il_3_2000, il_6_m1, il_6_0, il_6_1, il_6_2, il_6_3, il_6_6, il_6_20, il_6_30, il_6_50, il_6_200, il_6_400, il_6_2000, il_20_m1, il_20_0, il_20_1, il_20_2, il_20_3, il_20_6, il_20_20, il_20_30, il_20_50, il_20_200, il_20_400, il_20_2000, il_30_m1, il_30_0, il_30_1, il_30_2, il_30_3, il_30_6, il_30_20, il_30_30, il_30_50, il_30_200, il_30_400, il_30_2000, il_50_m1, il_50_0, il_50_1, il_50_2, il_50_3, il_50_6, il_50_20, il_50_30, il_50_50, il_50_200, il_50_400, il_50_2000, il_200_m1, il_200_0, il_200_1, il_200_2, il_200_3, il_200_6, il_200_20, il_200_30, il_200_50, il_200_200, il_200_400, il_200_2000, il_400_m1, il_400_0, il_400_1, il_400_2, il_400_3, il_400_6, il_400_20, il_400_30, il_400_50, il_400_200, il_400_400, il_400_2000, il_2000_m1, il_2000_0, il_2000_1, il_2000_2, il_2000_3, il_2000_6, il_2000_20, il_2000_30, il_2000_50, il_2000_200, il_2000_400, il_2000_2000, in_0, in_1, in_2, in_3, in_6, it_4, it_5, it_6, it_7, it_8, it_9, it_10, vt_0_1, vt_0_2, vt_1_2, vt_0_4, vt_1_4, vt_2_4, vt_3_4, vt_0_6, vt_1_6, vt_2_6, vt_3_6, vt_4_6, vt_5_6, vt_0_60, vt_0_1300, vt_0_800, vt_0_200, vt_0_400, vu_1, vu_2, vu_3, vu_4, vu_5, lg_refl, vt_200_800, vt_400_800, vt_600_800, vt_im_0, vt_im_1, vt_im_2, vt_im_3, vt_0_30, vt_d0, vt_m0, vt_m1, vt_m2, vt_30_60]
theorem yk8 {n : Nat} {M : z_Mem} {xs : Nat → Int32} (h : y_B n M y_m58 600002 108 7302232 89908 108) (fin : ∀ M1, P_L_law_1514 6 xs y_Post (fun q0 q1 q2 q3 qM => P_L_law_23 6 xs y_Post 1 q0 q1 q2 q3 qM) (some (n + 0)) (some (n + 40)) (some (n + 107)) 0 M1 = True) (r5 : z_room M 5 = True) (r6 : z_room M 6 = True) (r8 : z_room M 8 = True) (hS : y_S n M) (hSx : ∀ k w, y_S n (z_exc M k w) = True) (hsz : z_sz M = n + 108) : ((vp_in (0 + 1) 6) ∧ (P_L_connect (some (n + 0)) (xs ((0 + 1) : Int32).toNatClampNeg) M (fun x_102 M_102 => ((vp_in (0 + 1) 6) ∧ (z_nn (some (n + 40)) (fun a105 => (P_X12_connect a105 (xs ((0 + 1) : Int32).toNatClampNeg) M_102 (fun M_104 => (P_X12_thrown a105 M_104 (fun x_106 M_106 => (((x_106 = x_102) → (P_L_law_1514 6 xs y_Post (fun q0 q1 q2 q3 qM => (P_L_law_23 6 xs y_Post 1 q0 q1 q2 q3 qM)) (some (n + 0)) (some (n + 40)) (some (n + 107)) 0 M_106)) ∧ ((¬ (x_106 = x_102)) → (y_Post 0 M_106))))))))))))) := by
  by_cases r1a : xs 1 < (-1)
  · exact yl8_0 h fin r5 r6 r8 hS hSx hsz r1a
  by_cases r1b : 9 < xs 1
  · exact yl8_1 h fin r5 r6 r8 hS hSx hsz r1a r1b
  exact yl8_2 h fin r5 r6 r8 hS hSx hsz r1a r1b
