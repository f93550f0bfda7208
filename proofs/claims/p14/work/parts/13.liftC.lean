theorem za_300 : ∀ w ∈ (vx_atS RX11 300 "java/lang/IndexOutOfBoundsException" ["java/lang/RuntimeException", "java/lang/Exception"]).filter goodWord, w ∈ z_ws := fun w hw => z_mem (goodIn_r (big := tables_1) _ [13, 566, 575, 579, 582, 584, 567, 568, 28, 29, 569, 574, 580, 600, 556, 601, 558, 602, 560, 570, 572, 562, 596, 597, 599, 562, 587, 588, 589, 590, 590, 591, 592, 593, 593, 594, 595, 596, 586, 545, 553, 554, 555, 557, 559, 561, 565, 564, 563] (by decide +kernel) (by decide +kernel) w hw).1 (List.mem_filter.mp hw).2
theorem zb_300 : ∀ w ∈ (vx_atS RX11 300 "java/lang/IndexOutOfBoundsException" ["java/lang/RuntimeException", "java/lang/Exception"]).filter (fun w => !goodWord w), w ∈ Cond.castable "java/lang/IndexOutOfBoundsException" "java/lang/IndexOutOfBoundsException" :: z_dec.map Cond.declares := by decide +kernel
theorem zd_300 : ∀ w ∈ Cond.classLink RX11 296 "java/lang/IndexOutOfBoundsException" :: Cond.initialized "java/lang/IndexOutOfBoundsException" :: vx_atS RX11 300 "java/lang/IndexOutOfBoundsException" ["java/lang/RuntimeException", "java/lang/Exception"], vx_ot w = true := List.all_eq_true.mp (by decide +kernel)
theorem za_311 : ∀ w ∈ (vx_atS RX11 311 "java/lang/IllegalArgumentException" ["java/lang/RuntimeException", "java/lang/Exception"]).filter goodWord, w ∈ z_ws := fun w hw => z_mem (goodIn_r (big := tables_1) _ [13, 566, 575, 579, 582, 584, 567, 568, 28, 29, 569, 574, 580, 600, 556, 601, 558, 602, 560, 570, 572, 562, 596, 597, 599, 562, 626, 627, 628, 590, 590, 591, 592, 593, 593, 594, 595, 596, 625, 616, 618, 577, 619, 620, 621, 622, 565, 564, 623] (by decide +kernel) (by decide +kernel) w hw).1 (List.mem_filter.mp hw).2
theorem zb_311 : ∀ w ∈ (vx_atS RX11 311 "java/lang/IllegalArgumentException" ["java/lang/RuntimeException", "java/lang/Exception"]).filter (fun w => !goodWord w), w ∈ Cond.castable "java/lang/IllegalArgumentException" "java/lang/IllegalArgumentException" :: z_dec.map Cond.declares := by decide +kernel
theorem zd_311 : ∀ w ∈ Cond.classLink RX11 307 "java/lang/IllegalArgumentException" :: Cond.initialized "java/lang/IllegalArgumentException" :: vx_atS RX11 311 "java/lang/IllegalArgumentException" ["java/lang/RuntimeException", "java/lang/Exception"], vx_ot w = true := List.all_eq_true.mp (by decide +kernel)
theorem za_316 : ∀ w ∈ (vx_atS RX11 316 "java/lang/IllegalStateException" ["java/lang/RuntimeException", "java/lang/Exception"]).filter goodWord, w ∈ z_ws := fun w hw => z_mem (goodIn_r (big := tables_1) _ [13, 566, 575, 579, 582, 584, 567, 568, 28, 29, 569, 574, 580, 600, 556, 601, 558, 602, 560, 570, 572, 562, 596, 597, 599, 562, 779, 780, 781, 590, 590, 591, 592, 593, 593, 594, 595, 596, 778, 769, 771, 578, 772, 773, 774, 775, 565, 564, 776] (by decide +kernel) (by decide +kernel) w hw).1 (List.mem_filter.mp hw).2
theorem zb_316 : ∀ w ∈ (vx_atS RX11 316 "java/lang/IllegalStateException" ["java/lang/RuntimeException", "java/lang/Exception"]).filter (fun w => !goodWord w), w ∈ Cond.castable "java/lang/IllegalStateException" "java/lang/IllegalStateException" :: z_dec.map Cond.declares := by decide +kernel
theorem zd_316 : ∀ w ∈ Cond.classLink RX11 312 "java/lang/IllegalStateException" :: Cond.initialized "java/lang/IllegalStateException" :: vx_atS RX11 316 "java/lang/IllegalStateException" ["java/lang/RuntimeException", "java/lang/Exception"], vx_ot w = true := List.all_eq_true.mp (by decide +kernel)
set_option maxRecDepth 100000 in
def P_X11_requirePath (p1 : Int32) (M : z_Mem) (Post : z_Mem → Prop) (PX : String → z_Mem → Prop) : Prop := ((p1 < 0 → (z_room M 6 ∧ (∀ k n, k ≤ 1 → n ≤ 6 → PX "java/lang/IndexOutOfBoundsException" (z_exc M k n)))) ∧ (¬ p1 < 0 → ((p1 ≤ 1 → Post M) ∧ (¬ p1 ≤ 1 → (z_room M 6 ∧ (∀ k n, k ≤ 1 → n ≤ 6 → PX "java/lang/IndexOutOfBoundsException" (z_exc M k n)))))))
set_option maxRecDepth 100000 in
set_option maxHeartbeats 4000000 in
theorem s_X11_requirePath {G : z_G} {M : z_Mem} {p1 : Int32} {Post : z_Mem → Prop} {PX : String → z_Mem → Prop} (hl9 : G.1.stackTraces = false) (hP : P_X11_requirePath p1 M Post PX) : z_Mx G Y_X11_requirePath M [z_I p1] (z_PV Post) PX := by
  refine z_ofX (by decide) (Nat.le_of_ble_eq_true rfl) ?_
  unfold P_X11_requirePath at hP
  refine z_sub (lv' := [(0, z_I p1)]) [0] rfl ?_
  refine z_iload_n dX11_requirePath_0 rfl 0 rfl ?_
  refine z_if_lt (tgt := 9) dX11_requirePath_1 (by decide) (fun h1 => ?_) (fun h1 => ?_)
  · replace hP := hP.1 h1
    exact z_throw hl9 (by decide) (List.mem_of_getElem? (i := 0) rfl) zw_544 zw_16 (fun A U H h => by obtain ⟨-, -, f, t0, t1, t2, t3, t4, -⟩ := h; exact ⟨_, t0⟩) za_300 zb_300 zd_300 dX11_requirePath_9 dX11_requirePath_12 dX11_requirePath_13 dX11_requirePath_16 dX11_requirePath_19 (Nat.le_of_ble_eq_true rfl) (Nat.le_of_ble_eq_true rfl) hP.1 hP.2
  · replace hP := hP.2 h1
    refine z_iload_n dX11_requirePath_4 rfl 0 rfl ?_
    refine z_iconst (v := 1) dX11_requirePath_5 (by decide) ?_
    refine z_icmp_le (tgt := 20) dX11_requirePath_6 (by decide) (fun h2 => ?_) (fun h2 => ?_)
    · replace hP := hP.1 h2
      exact z_toX (z_retv rfl dX11_requirePath_20 hP)
    · replace hP := hP.2 h2
      exact z_throw hl9 (by decide) (List.mem_of_getElem? (i := 0) rfl) zw_544 zw_16 (fun A U H h => by obtain ⟨-, -, f, t0, t1, t2, t3, t4, -⟩ := h; exact ⟨_, t0⟩) za_300 zb_300 zd_300 dX11_requirePath_9 dX11_requirePath_12 dX11_requirePath_13 dX11_requirePath_16 dX11_requirePath_19 (Nat.le_of_ble_eq_true rfl) (Nat.le_of_ble_eq_true rfl) hP.1 hP.2
set_option maxRecDepth 100000 in
def P_X11_requireRange (p1 : Int32) (p2 : Int32) (p3 : Int32) (M : z_Mem) (Post : z_Mem → Prop) (PX : String → z_Mem → Prop) : Prop := ((p1 < p2 → (z_room M 6 ∧ (∀ k n, k ≤ 1 → n ≤ 6 → PX "java/lang/IllegalArgumentException" (z_exc M k n)))) ∧ (¬ p1 < p2 → ((p1 ≤ p3 → Post M) ∧ (¬ p1 ≤ p3 → (z_room M 6 ∧ (∀ k n, k ≤ 1 → n ≤ 6 → PX "java/lang/IllegalArgumentException" (z_exc M k n)))))))
set_option maxRecDepth 100000 in
set_option maxHeartbeats 4000000 in
theorem s_X11_requireRange {G : z_G} {M : z_Mem} {p1 : Int32} {p2 : Int32} {p3 : Int32} {Post : z_Mem → Prop} {PX : String → z_Mem → Prop} (hl9 : G.1.stackTraces = false) (hP : P_X11_requireRange p1 p2 p3 M Post PX) : z_Mx G Y_X11_requireRange M [z_I p1, z_I p2, z_I p3] (z_PV Post) PX := by
  refine z_ofX (by decide) (Nat.le_of_ble_eq_true rfl) ?_
  unfold P_X11_requireRange at hP
  refine z_sub (lv' := [(0, z_I p1), (1, z_I p2), (2, z_I p3)]) [0, 1, 2] rfl ?_
  refine z_iload_n dX11_requireRange_0 rfl 0 rfl ?_
  refine z_iload_n dX11_requireRange_1 rfl 1 rfl ?_
  refine z_icmp_lt (tgt := 10) dX11_requireRange_2 (by decide) (fun h1 => ?_) (fun h1 => ?_)
  · replace hP := hP.1 h1
    exact z_throw hl9 (by decide) (List.mem_of_getElem? (i := 1) rfl) zw_615 zw_17 (fun A U H h => by obtain ⟨-, -, f, t0, t1, t2, t3, t4, -⟩ := h; exact ⟨_, t1⟩) za_311 zb_311 zd_311 dX11_requireRange_10 dX11_requireRange_13 dX11_requireRange_14 dX11_requireRange_17 dX11_requireRange_20 (Nat.le_of_ble_eq_true rfl) (Nat.le_of_ble_eq_true rfl) hP.1 hP.2
  · replace hP := hP.2 h1
    refine z_iload_n dX11_requireRange_5 rfl 0 rfl ?_
    refine z_iload_n dX11_requireRange_6 rfl 2 rfl ?_
    refine z_icmp_le (tgt := 21) dX11_requireRange_7 (by decide) (fun h2 => ?_) (fun h2 => ?_)
    · replace hP := hP.1 h2
      exact z_toX (z_retv rfl dX11_requireRange_21 hP)
    · replace hP := hP.2 h2
      exact z_throw hl9 (by decide) (List.mem_of_getElem? (i := 1) rfl) zw_615 zw_17 (fun A U H h => by obtain ⟨-, -, f, t0, t1, t2, t3, t4, -⟩ := h; exact ⟨_, t1⟩) za_311 zb_311 zd_311 dX11_requireRange_10 dX11_requireRange_13 dX11_requireRange_14 dX11_requireRange_17 dX11_requireRange_20 (Nat.le_of_ble_eq_true rfl) (Nat.le_of_ble_eq_true rfl) hP.1 hP.2
set_option maxRecDepth 100000 in
def P_X11_setPath (a : Nat) (p1 : Int32) (p2 : Int32) (p3 : Int32) (p4 : Int32) (p5 : Int32) (M : z_Mem) (Post : z_Mem → Prop) (PX : String → z_Mem → Prop) : Prop := P_X11_requirePath p1 M (fun M_1 => P_X11_requireRange p2 1 30 M_1 (fun M_2 => P_X11_requireRange p3 1 9 M_2 (fun M_3 => P_X11_requireRange p4 1 30 M_3 (fun M_4 => P_X11_requireRange p5 0 30 M_4 (fun M_5 => z_nn (z_fr M_5 1408 a) fun a8 => (P_X5_laneOf a8 p1 M_5 fun x_7 M_7 => (z_nn x_7 fun a9 => (∀ M_10 : z_Mem, M_10 = z_sfi M_7 384 a9 p2 → (∀ M_11 : z_Mem, M_11 = z_sfi M_10 385 a9 p3 → (∀ M_12 : z_Mem, M_12 = z_sfi M_11 386 a9 p4 → (∀ M_13 : z_Mem, M_13 = z_sfi M_12 387 a9 p5 → (Post M_13)))))))) PX) PX) PX) PX) PX
set_option maxRecDepth 100000 in
set_option maxHeartbeats 4000000 in
theorem s_X11_setPath {G : z_G} {M : z_Mem} {a : Nat} {p1 : Int32} {p2 : Int32} {p3 : Int32} {p4 : Int32} {p5 : Int32} {Post : z_Mem → Prop} {PX : String → z_Mem → Prop} (hl9 : G.1.stackTraces = false) (ha : z_ki M a = 12) (hP : P_X11_setPath a p1 p2 p3 p4 p5 M Post PX) : z_Mx G Y_X11_setPath M [z_O (some a), z_I p1, z_I p2, z_I p3, z_I p4, z_I p5] (z_PV Post) PX := by
  refine z_ofX (by decide) (Nat.le_of_ble_eq_true rfl) ?_
  unfold P_X11_setPath at hP
  refine z_sub (lv' := [(0, z_O (some a)), (1, z_I p1), (2, z_I p2), (3, z_I p3), (4, z_I p4), (5, z_I p5)]) [0, 1, 2, 3, 4, 5] rfl ?_
  refine z_iload_n dX11_setPath_0 rfl 1 rfl ?_
  refine z_wts (fun hT1 _ => ?_)
  refine z_xS (n := 1) (Y1 := Y_X11_requirePath) (st := []) rfl (s_X11_requirePath hl9  hP) rfl ⟨z_dc_X11_requirePath, ⟨(Nat.le_of_ble_eq_true rfl), (Nat.le_of_ble_eq_true rfl)⟩, (Nat.le_of_ble_eq_true rfl)⟩ rfl zw_541 zw_542 zw_1 zw_543 dX11_setPath_1 (fun _ _ h => h) (fun r_1 M_1 hP _ x1 => ?_)
  obtain ⟨rfl, hP⟩ := hP
  refine z_stk (st' := []) rfl ?_
  have ha := x1.k (k := 11) hT1 ha
  refine z_iload_n dX11_setPath_4 rfl 2 rfl ?_
  refine z_iconst (v := 1) dX11_setPath_5 (by decide) ?_
  refine z_bipush (v := 30) dX11_setPath_6 (by decide) ?_
  refine z_wts (fun hT2 _ => ?_)
  refine z_xS (n := 3) (Y1 := Y_X11_requireRange) (st := []) rfl (s_X11_requireRange hl9  hP) rfl ⟨z_dc_X11_requireRange, ⟨(Nat.le_of_ble_eq_true rfl), (Nat.le_of_ble_eq_true rfl)⟩, (Nat.le_of_ble_eq_true rfl)⟩ rfl zw_612 zw_613 zw_1 zw_614 dX11_setPath_8 (fun _ _ h => h) (fun r_2 M_2 hP _ x2 => ?_)
  obtain ⟨rfl, hP⟩ := hP
  refine z_stk (st' := []) rfl ?_
  have ha := x2.k (k := 11) hT2 ha
  refine z_pc (pc' := 11) rfl ?_
  refine z_iload_n dX11_setPath_11 rfl 3 rfl ?_
  refine z_iconst (v := 1) dX11_setPath_12 (by decide) ?_
  refine z_bipush (v := 9) dX11_setPath_13 (by decide) ?_
  refine z_wts (fun hT3 _ => ?_)
  refine z_xS (n := 3) (Y1 := Y_X11_requireRange) (st := []) rfl (s_X11_requireRange hl9  hP) rfl ⟨z_dc_X11_requireRange, ⟨(Nat.le_of_ble_eq_true rfl), (Nat.le_of_ble_eq_true rfl)⟩, (Nat.le_of_ble_eq_true rfl)⟩ rfl zw_612 zw_613 zw_1 zw_614 dX11_setPath_15 (fun _ _ h => h) (fun r_3 M_3 hP _ x3 => ?_)
  obtain ⟨rfl, hP⟩ := hP
  refine z_stk (st' := []) rfl ?_
  have ha := x3.k (k := 11) hT3 ha
  refine z_iload dX11_setPath_18 4 rfl ?_
  refine z_iconst (v := 1) dX11_setPath_20 (by decide) ?_
  refine z_pc (pc' := 21) rfl ?_
  refine z_bipush (v := 30) dX11_setPath_21 (by decide) ?_
  refine z_wts (fun hT4 _ => ?_)
  refine z_xS (n := 3) (Y1 := Y_X11_requireRange) (st := []) rfl (s_X11_requireRange hl9  hP) rfl ⟨z_dc_X11_requireRange, ⟨(Nat.le_of_ble_eq_true rfl), (Nat.le_of_ble_eq_true rfl)⟩, (Nat.le_of_ble_eq_true rfl)⟩ rfl zw_612 zw_613 zw_1 zw_614 dX11_setPath_23 (fun _ _ h => h) (fun r_4 M_4 hP _ x4 => ?_)
  obtain ⟨rfl, hP⟩ := hP
  refine z_stk (st' := []) rfl ?_
  have ha := x4.k (k := 11) hT4 ha
  refine z_iload dX11_setPath_26 5 rfl ?_
  refine z_iconst (v := 0) dX11_setPath_28 (by decide) ?_
  refine z_bipush (v := 30) dX11_setPath_29 (by decide) ?_
  refine z_wts (fun hT5 _ => ?_)
  refine z_xS (n := 3) (Y1 := Y_X11_requireRange) (st := []) rfl (s_X11_requireRange hl9  hP) rfl ⟨z_dc_X11_requireRange, ⟨(Nat.le_of_ble_eq_true rfl), (Nat.le_of_ble_eq_true rfl)⟩, (Nat.le_of_ble_eq_true rfl)⟩ rfl zw_612 zw_613 zw_1 zw_614 dX11_setPath_31 (fun _ _ h => h) (fun r_5 M_5 hP _ x5 => ?_)
  obtain ⟨rfl, hP⟩ := hP
  refine z_stk (st' := []) rfl ?_
  have ha := x5.k (k := 11) hT5 ha
  refine z_pc (pc' := 34) rfl ?_
  refine z_aload_n dX11_setPath_34 rfl 0 rfl ?_
  refine z_getr (c := 11) (k := 0) (g := 1408) (t := 6) z_cb11 (Nat.le_of_ble_eq_true rfl) (Nat.le_of_ble_eq_true rfl) rfl rfl zw_489 rfl ha dX11_setPath_35 (fun f6 => ?_)
  refine z_iload_n dX11_setPath_38 rfl 1 rfl ?_
  obtain ⟨a8, e8, hP⟩ := hP
  have k8 := f6 a8 e8
  refine z_wts (fun hT7 _ => ?_)
  refine z_cVo (c := 5) (n := 1) (Y1 := Y_X5_laneOf) (st := []) e8 k8 z_cb5 (Nat.le_of_ble_eq_true rfl) rfl (s_X5_laneOf k8 hP) rfl ⟨z_dc_X5_laneOf, ⟨(Nat.le_of_ble_eq_true rfl), (Nat.le_of_ble_eq_true rfl)⟩, (Nat.le_of_ble_eq_true rfl)⟩ rfl zw_631 zw_632 zw_633 zw_2 zw_634 dX11_setPath_39 (fun x_7 M_7 f7 hP _ x7 => ?_)
  have ha := x7.k (k := 11) hT7 ha
  refine z_astore (lv' := [(6, z_O _), (0, z_O _), (1, z_I _), (2, z_I _), (3, z_I _), (4, z_I _), (5, z_I _)]) dX11_setPath_42 (Nat.le_of_ble_eq_true rfl) rfl ?_
  refine z_aload dX11_setPath_44 0 rfl ?_
  refine z_pc (pc' := 46) rfl ?_
  refine z_iload_n dX11_setPath_46 rfl 3 rfl ?_
  obtain ⟨a9, e9, hP⟩ := hP
  have k9 := f7 a9 e9
  refine z_puti (c := 3) (k := 0) (g := 384) z_cb3 (Nat.le_of_ble_eq_true rfl) (Nat.le_of_ble_eq_true rfl) (Nat.le_of_ble_eq_true rfl) rfl rfl rfl zw_45 e9 k9 (Or.inl rfl) dX11_setPath_47 ?_
  refine z_nm (fun M_10 g_10 => ?_)
  replace hP := hP M_10 g_10
  have q_10 := z_k1 g_10
  have ha := z_kk q_10 ha
  have k9 := z_kk q_10 k9
  refine z_aload dX11_setPath_50 0 rfl ?_
  refine z_iload_n dX11_setPath_52 rfl 4 rfl ?_
  refine z_puti (c := 3) (k := 1) (g := 385) z_cb3 (Nat.le_of_ble_eq_true rfl) (Nat.le_of_ble_eq_true rfl) (Nat.le_of_ble_eq_true rfl) rfl rfl rfl zw_48 e9 k9 (Or.inl rfl) dX11_setPath_53 ?_
  refine z_nm (fun M_11 g_11 => ?_)
  replace hP := hP M_11 g_11
  have q_11 := z_k1 g_11
  have ha := z_kk q_11 ha
  have k9 := z_kk q_11 k9
  refine z_aload dX11_setPath_56 0 rfl ?_
  refine z_pc (pc' := 58) rfl ?_
  refine z_iload dX11_setPath_58 5 rfl ?_
  refine z_puti (c := 3) (k := 2) (g := 386) z_cb3 (Nat.le_of_ble_eq_true rfl) (Nat.le_of_ble_eq_true rfl) (Nat.le_of_ble_eq_true rfl) rfl rfl rfl zw_51 e9 k9 (Or.inl rfl) dX11_setPath_60 ?_
  refine z_nm (fun M_12 g_12 => ?_)
  replace hP := hP M_12 g_12
  have q_12 := z_k1 g_12
  have ha := z_kk q_12 ha
  have k9 := z_kk q_12 k9
  refine z_aload dX11_setPath_63 0 rfl ?_
  refine z_iload dX11_setPath_65 6 rfl ?_
  refine z_puti (c := 3) (k := 3) (g := 387) z_cb3 (Nat.le_of_ble_eq_true rfl) (Nat.le_of_ble_eq_true rfl) (Nat.le_of_ble_eq_true rfl) rfl rfl rfl zw_53 e9 k9 (Or.inl rfl) dX11_setPath_67 ?_
  refine z_nm (fun M_13 g_13 => ?_)
  replace hP := hP M_13 g_13
  have q_13 := z_k1 g_13
  have ha := z_kk q_13 ha
  have k9 := z_kk q_13 k9
  exact z_toX (z_retv rfl dX11_setPath_70 hP)
set_option maxRecDepth 100000 in
def P_X11_setUp (a : Nat) (p1 : Int32) (p2 : Int32) (M : z_Mem) (Post : Int32 → z_Mem → Prop) (PX : String → z_Mem → Prop) : Prop := P_X11_requirePath p1 M (fun M_1 => z_nn (z_fr M_1 1408 a) fun a4 => (P_X5_laneOf a4 p1 M_1 fun x_3 M_3 => (z_nn x_3 fun a5 => (∀ x_7 : Int32, x_7 = (z_fi M_3 388 a5) → (∀ M_8 : z_Mem, M_8 = z_sfi M_3 388 a5 p2 → (Post x_7 M_8)))))) PX
set_option maxRecDepth 100000 in
set_option maxHeartbeats 4000000 in
theorem s_X11_setUp {G : z_G} {M : z_Mem} {a : Nat} {p1 : Int32} {p2 : Int32} {Post : Int32 → z_Mem → Prop} {PX : String → z_Mem → Prop} (hl9 : G.1.stackTraces = false) (ha : z_ki M a = 12) (f_p2 : p2 = 0 ∨ p2 = 1) (hP : P_X11_setUp a p1 p2 M Post PX) : z_Mx G Y_X11_setUp M [z_O (some a), z_I p1, z_I p2] (z_PB Post) PX := by
  refine z_ofX (by decide) (Nat.le_of_ble_eq_true rfl) ?_
  unfold P_X11_setUp at hP
  refine z_sub (lv' := [(0, z_O (some a)), (1, z_I p1), (2, z_I p2)]) [0, 1, 2] rfl ?_
  refine z_iload_n dX11_setUp_0 rfl 1 rfl ?_
  refine z_wts (fun hT1 _ => ?_)
  refine z_xS (n := 1) (Y1 := Y_X11_requirePath) (st := []) rfl (s_X11_requirePath hl9  hP) rfl ⟨z_dc_X11_requirePath, ⟨(Nat.le_of_ble_eq_true rfl), (Nat.le_of_ble_eq_true rfl)⟩, (Nat.le_of_ble_eq_true rfl)⟩ rfl zw_541 zw_542 zw_1 zw_543 dX11_setUp_1 (fun _ _ h => h) (fun r_1 M_1 hP _ x1 => ?_)
  obtain ⟨rfl, hP⟩ := hP
  refine z_stk (st' := []) rfl ?_
  have ha := x1.k (k := 11) hT1 ha
  refine z_aload_n dX11_setUp_4 rfl 0 rfl ?_
  refine z_getr (c := 11) (k := 0) (g := 1408) (t := 6) z_cb11 (Nat.le_of_ble_eq_true rfl) (Nat.le_of_ble_eq_true rfl) rfl rfl zw_489 rfl ha dX11_setUp_5 (fun f2 => ?_)
  refine z_iload_n dX11_setUp_8 rfl 1 rfl ?_
  obtain ⟨a4, e4, hP⟩ := hP
  have k4 := f2 a4 e4
  refine z_wts (fun hT3 _ => ?_)
  refine z_cVo (c := 5) (n := 1) (Y1 := Y_X5_laneOf) (st := []) e4 k4 z_cb5 (Nat.le_of_ble_eq_true rfl) rfl (s_X5_laneOf k4 hP) rfl ⟨z_dc_X5_laneOf, ⟨(Nat.le_of_ble_eq_true rfl), (Nat.le_of_ble_eq_true rfl)⟩, (Nat.le_of_ble_eq_true rfl)⟩ rfl zw_631 zw_632 zw_633 zw_2 zw_634 dX11_setUp_9 (fun x_3 M_3 f3 hP _ x3 => ?_)
  have ha := x3.k (k := 11) hT3 ha
  refine z_pc (pc' := 12) rfl ?_
  refine z_astore_n (lv' := [(3, z_O _), (0, z_O _), (1, z_I _), (2, z_I _)]) dX11_setUp_12 rfl (Nat.le_of_ble_eq_true rfl) rfl ?_
  refine z_aload_n dX11_setUp_13 rfl 0 rfl ?_
  obtain ⟨a5, e5, hP⟩ := hP
  have k5 := f3 a5 e5
  refine z_getb (c := 3) (k := 4) (g := 388) z_cb3 (Nat.le_of_ble_eq_true rfl) (Nat.le_of_ble_eq_true rfl) rfl rfl zw_56 e5 k5 dX11_setUp_14 (fun b6 => ?_)
  refine z_topi (fun x_7 y_7 => ?_)
  replace hP := hP x_7 y_7
  refine z_istore (lv' := [(4, z_I _), (3, z_O _), (0, z_O _), (1, z_I _), (2, z_I _)]) dX11_setUp_17 (Nat.le_of_ble_eq_true rfl) rfl ?_
  refine z_aload_n dX11_setUp_19 rfl 1 rfl ?_
  refine z_iload_n dX11_setUp_20 rfl 4 rfl ?_
  refine z_pc (pc' := 21) rfl ?_
  refine z_putb (c := 3) (k := 4) (g := 388) z_cb3 (Nat.le_of_ble_eq_true rfl) (Nat.le_of_ble_eq_true rfl) (Nat.le_of_ble_eq_true rfl) rfl rfl rfl zw_56 e5 k5 f_p2 (Or.inl rfl) dX11_setUp_21 ?_
  refine z_nm (fun M_8 g_8 => ?_)
  replace hP := hP M_8 g_8
  have q_8 := z_k1 g_8
  have ha := z_kk q_8 ha
  have k5 := z_kk q_8 k5
  refine z_iload dX11_setUp_24 0 rfl ?_
  exact z_toX (z_retb rfl (z_bt y_7 b6) dX11_setUp_26 hP)
set_option maxRecDepth 100000 in
def P_X11_lose (a : Nat) (p1 : Int32) (p2 : Int32) (p3 : Int32) (M : z_Mem) (Post : z_Mem → Prop) (PX : String → z_Mem → Prop) : Prop := P_X11_requirePath p1 M (fun M_1 => P_X11_requireRange p3 0 20 M_1 (fun M_2 => z_nn (z_fr M_2 1408 a) fun a5 => (P_X5_laneOf a5 p1 M_2 fun x_4 M_4 => (((p2 = 0 → z_nn x_4 fun a7 => (∀ M_8 : z_Mem, M_8 = z_sfi M_4 390 a7 p3 → (Post M_8))) ∧ (¬ p2 = 0 → z_nn x_4 fun a9 => (∀ M_10 : z_Mem, M_10 = z_sfi M_4 389 a9 p3 → (Post M_10))))))) PX) PX
set_option maxRecDepth 100000 in
set_option maxHeartbeats 4000000 in
theorem s_X11_lose {G : z_G} {M : z_Mem} {a : Nat} {p1 : Int32} {p2 : Int32} {p3 : Int32} {Post : z_Mem → Prop} {PX : String → z_Mem → Prop} (hl9 : G.1.stackTraces = false) (ha : z_ki M a = 12) (f_p2 : p2 = 0 ∨ p2 = 1) (hP : P_X11_lose a p1 p2 p3 M Post PX) : z_Mx G Y_X11_lose M [z_O (some a), z_I p1, z_I p2, z_I p3] (z_PV Post) PX := by
  refine z_ofX (by decide) (Nat.le_of_ble_eq_true rfl) ?_
  unfold P_X11_lose at hP
  refine z_sub (lv' := [(0, z_O (some a)), (1, z_I p1), (2, z_I p2), (3, z_I p3)]) [0, 1, 2, 3] rfl ?_
  refine z_iload_n dX11_lose_0 rfl 1 rfl ?_
  refine z_wts (fun hT1 _ => ?_)
  refine z_xS (n := 1) (Y1 := Y_X11_requirePath) (st := []) rfl (s_X11_requirePath hl9  hP) rfl ⟨z_dc_X11_requirePath, ⟨(Nat.le_of_ble_eq_true rfl), (Nat.le_of_ble_eq_true rfl)⟩, (Nat.le_of_ble_eq_true rfl)⟩ rfl zw_541 zw_542 zw_1 zw_543 dX11_lose_1 (fun _ _ h => h) (fun r_1 M_1 hP _ x1 => ?_)
  obtain ⟨rfl, hP⟩ := hP
  refine z_stk (st' := []) rfl ?_
  have ha := x1.k (k := 11) hT1 ha
  refine z_iload_n dX11_lose_4 rfl 3 rfl ?_
  refine z_iconst (v := 0) dX11_lose_5 (by decide) ?_
  refine z_bipush (v := 20) dX11_lose_6 (by decide) ?_
  refine z_wts (fun hT2 _ => ?_)
  refine z_xS (n := 3) (Y1 := Y_X11_requireRange) (st := []) rfl (s_X11_requireRange hl9  hP) rfl ⟨z_dc_X11_requireRange, ⟨(Nat.le_of_ble_eq_true rfl), (Nat.le_of_ble_eq_true rfl)⟩, (Nat.le_of_ble_eq_true rfl)⟩ rfl zw_612 zw_613 zw_1 zw_614 dX11_lose_8 (fun _ _ h => h) (fun r_2 M_2 hP _ x2 => ?_)
  obtain ⟨rfl, hP⟩ := hP
  refine z_stk (st' := []) rfl ?_
  have ha := x2.k (k := 11) hT2 ha
  refine z_pc (pc' := 11) rfl ?_
  refine z_aload_n dX11_lose_11 rfl 0 rfl ?_
  refine z_getr (c := 11) (k := 0) (g := 1408) (t := 6) z_cb11 (Nat.le_of_ble_eq_true rfl) (Nat.le_of_ble_eq_true rfl) rfl rfl zw_489 rfl ha dX11_lose_12 (fun f3 => ?_)
  refine z_iload_n dX11_lose_15 rfl 1 rfl ?_
  obtain ⟨a5, e5, hP⟩ := hP
  have k5 := f3 a5 e5
  refine z_wts (fun hT4 _ => ?_)
  refine z_cVo (c := 5) (n := 1) (Y1 := Y_X5_laneOf) (st := []) e5 k5 z_cb5 (Nat.le_of_ble_eq_true rfl) rfl (s_X5_laneOf k5 hP) rfl ⟨z_dc_X5_laneOf, ⟨(Nat.le_of_ble_eq_true rfl), (Nat.le_of_ble_eq_true rfl)⟩, (Nat.le_of_ble_eq_true rfl)⟩ rfl zw_631 zw_632 zw_633 zw_2 zw_634 dX11_lose_16 (fun x_4 M_4 f4 hP _ x4 => ?_)
  have ha := x4.k (k := 11) hT4 ha
  refine z_astore (lv' := [(4, z_O _), (0, z_O _), (1, z_I _), (2, z_I _), (3, z_I _)]) dX11_lose_19 (Nat.le_of_ble_eq_true rfl) rfl ?_
  refine z_iload_n dX11_lose_21 rfl 3 rfl ?_
  refine z_pc (pc' := 22) rfl ?_
  refine z_if_eq (tgt := 34) dX11_lose_22 (by decide) (fun h6 => ?_) (fun h6 => ?_)
  · replace hP := hP.1 h6
    refine z_aload dX11_lose_34 0 rfl ?_
    refine z_iload_n dX11_lose_36 rfl 4 rfl ?_
    obtain ⟨a7, e7, hP⟩ := hP
    have k7 := f4 a7 e7
    refine z_puti (c := 3) (k := 6) (g := 390) z_cb3 (Nat.le_of_ble_eq_true rfl) (Nat.le_of_ble_eq_true rfl) (Nat.le_of_ble_eq_true rfl) rfl rfl rfl zw_60 e7 k7 (Or.inl rfl) dX11_lose_37 ?_
    refine z_nm (fun M_8 g_8 => ?_)
    replace hP := hP M_8 g_8
    have q_8 := z_k1 g_8
    have ha := z_kk q_8 ha
    have k7 := z_kk q_8 k7
    exact z_toX (z_retv rfl dX11_lose_40 hP)
  · replace hP := hP.2 h6
    refine z_aload dX11_lose_25 0 rfl ?_
    refine z_iload_n dX11_lose_27 rfl 4 rfl ?_
    obtain ⟨a9, e9, hP⟩ := hP
    have k9 := f4 a9 e9
    refine z_puti (c := 3) (k := 5) (g := 389) z_cb3 (Nat.le_of_ble_eq_true rfl) (Nat.le_of_ble_eq_true rfl) (Nat.le_of_ble_eq_true rfl) rfl rfl rfl zw_58 e9 k9 (Or.inl rfl) dX11_lose_28 ?_
    refine z_nm (fun M_10 g_10 => ?_)
    replace hP := hP M_10 g_10
    have q_10 := z_k1 g_10
    have ha := z_kk q_10 ha
    have k9 := z_kk q_10 k9
    refine z_goto (tgt := 40) dX11_lose_31 (by decide) ?_
    exact z_toX (z_retv rfl dX11_lose_40 hP)
set_option maxRecDepth 100000 in
def P_X11_late (a : Nat) (p1 : Int32) (p2 : Int32) (p3 : Int32) (M : z_Mem) (Post : z_Mem → Prop) (PX : String → z_Mem → Prop) : Prop := P_X11_requirePath p1 M (fun M_1 => P_X11_requireRange p2 0 20 M_1 (fun M_2 => P_X11_requireRange p3 0 50 M_2 (fun M_3 => z_nn (z_fr M_3 1408 a) fun a6 => (P_X5_laneOf a6 p1 M_3 fun x_5 M_5 => (z_nn x_5 fun a7 => (∀ M_8 : z_Mem, M_8 = z_sfi M_5 391 a7 p2 → (∀ M_9 : z_Mem, M_9 = z_sfi M_8 392 a7 p3 → (Post M_9)))))) PX) PX) PX
set_option maxRecDepth 100000 in
set_option maxHeartbeats 4000000 in
theorem s_X11_late {G : z_G} {M : z_Mem} {a : Nat} {p1 : Int32} {p2 : Int32} {p3 : Int32} {Post : z_Mem → Prop} {PX : String → z_Mem → Prop} (hl9 : G.1.stackTraces = false) (ha : z_ki M a = 12) (hP : P_X11_late a p1 p2 p3 M Post PX) : z_Mx G Y_X11_late M [z_O (some a), z_I p1, z_I p2, z_I p3] (z_PV Post) PX := by
  refine z_ofX (by decide) (Nat.le_of_ble_eq_true rfl) ?_
  unfold P_X11_late at hP
  refine z_sub (lv' := [(0, z_O (some a)), (1, z_I p1), (2, z_I p2), (3, z_I p3)]) [0, 1, 2, 3] rfl ?_
  refine z_iload_n dX11_late_0 rfl 1 rfl ?_
  refine z_wts (fun hT1 _ => ?_)
  refine z_xS (n := 1) (Y1 := Y_X11_requirePath) (st := []) rfl (s_X11_requirePath hl9  hP) rfl ⟨z_dc_X11_requirePath, ⟨(Nat.le_of_ble_eq_true rfl), (Nat.le_of_ble_eq_true rfl)⟩, (Nat.le_of_ble_eq_true rfl)⟩ rfl zw_541 zw_542 zw_1 zw_543 dX11_late_1 (fun _ _ h => h) (fun r_1 M_1 hP _ x1 => ?_)
  obtain ⟨rfl, hP⟩ := hP
  refine z_stk (st' := []) rfl ?_
  have ha := x1.k (k := 11) hT1 ha
  refine z_iload_n dX11_late_4 rfl 2 rfl ?_
  refine z_iconst (v := 0) dX11_late_5 (by decide) ?_
  refine z_bipush (v := 20) dX11_late_6 (by decide) ?_
  refine z_wts (fun hT2 _ => ?_)
  refine z_xS (n := 3) (Y1 := Y_X11_requireRange) (st := []) rfl (s_X11_requireRange hl9  hP) rfl ⟨z_dc_X11_requireRange, ⟨(Nat.le_of_ble_eq_true rfl), (Nat.le_of_ble_eq_true rfl)⟩, (Nat.le_of_ble_eq_true rfl)⟩ rfl zw_612 zw_613 zw_1 zw_614 dX11_late_8 (fun _ _ h => h) (fun r_2 M_2 hP _ x2 => ?_)
  obtain ⟨rfl, hP⟩ := hP
  refine z_stk (st' := []) rfl ?_
  have ha := x2.k (k := 11) hT2 ha
  refine z_pc (pc' := 11) rfl ?_
  refine z_iload_n dX11_late_11 rfl 3 rfl ?_
  refine z_iconst (v := 0) dX11_late_12 (by decide) ?_
  refine z_bipush (v := 50) dX11_late_13 (by decide) ?_
  refine z_wts (fun hT3 _ => ?_)
  refine z_xS (n := 3) (Y1 := Y_X11_requireRange) (st := []) rfl (s_X11_requireRange hl9  hP) rfl ⟨z_dc_X11_requireRange, ⟨(Nat.le_of_ble_eq_true rfl), (Nat.le_of_ble_eq_true rfl)⟩, (Nat.le_of_ble_eq_true rfl)⟩ rfl zw_612 zw_613 zw_1 zw_614 dX11_late_15 (fun _ _ h => h) (fun r_3 M_3 hP _ x3 => ?_)
  obtain ⟨rfl, hP⟩ := hP
  refine z_stk (st' := []) rfl ?_
  have ha := x3.k (k := 11) hT3 ha
  refine z_aload_n dX11_late_18 rfl 0 rfl ?_
  refine z_getr (c := 11) (k := 0) (g := 1408) (t := 6) z_cb11 (Nat.le_of_ble_eq_true rfl) (Nat.le_of_ble_eq_true rfl) rfl rfl zw_489 rfl ha dX11_late_19 (fun f4 => ?_)
  refine z_pc (pc' := 22) rfl ?_
  refine z_iload_n dX11_late_22 rfl 1 rfl ?_
  obtain ⟨a6, e6, hP⟩ := hP
  have k6 := f4 a6 e6
  refine z_wts (fun hT5 _ => ?_)
  refine z_cVo (c := 5) (n := 1) (Y1 := Y_X5_laneOf) (st := []) e6 k6 z_cb5 (Nat.le_of_ble_eq_true rfl) rfl (s_X5_laneOf k6 hP) rfl ⟨z_dc_X5_laneOf, ⟨(Nat.le_of_ble_eq_true rfl), (Nat.le_of_ble_eq_true rfl)⟩, (Nat.le_of_ble_eq_true rfl)⟩ rfl zw_631 zw_632 zw_633 zw_2 zw_634 dX11_late_23 (fun x_5 M_5 f5 hP _ x5 => ?_)
  have ha := x5.k (k := 11) hT5 ha
  refine z_astore (lv' := [(4, z_O _), (0, z_O _), (1, z_I _), (2, z_I _), (3, z_I _)]) dX11_late_26 (Nat.le_of_ble_eq_true rfl) rfl ?_
  refine z_aload dX11_late_28 0 rfl ?_
  refine z_iload_n dX11_late_30 rfl 3 rfl ?_
  obtain ⟨a7, e7, hP⟩ := hP
  have k7 := f5 a7 e7
  refine z_puti (c := 3) (k := 7) (g := 391) z_cb3 (Nat.le_of_ble_eq_true rfl) (Nat.le_of_ble_eq_true rfl) (Nat.le_of_ble_eq_true rfl) rfl rfl rfl zw_61 e7 k7 (Or.inl rfl) dX11_late_31 ?_
  refine z_nm (fun M_8 g_8 => ?_)
  replace hP := hP M_8 g_8
  have q_8 := z_k1 g_8
  have ha := z_kk q_8 ha
  have k7 := z_kk q_8 k7
  refine z_pc (pc' := 34) rfl ?_
  refine z_aload dX11_late_34 0 rfl ?_
  refine z_iload_n dX11_late_36 rfl 4 rfl ?_
  refine z_puti (c := 3) (k := 8) (g := 392) z_cb3 (Nat.le_of_ble_eq_true rfl) (Nat.le_of_ble_eq_true rfl) (Nat.le_of_ble_eq_true rfl) rfl rfl rfl zw_63 e7 k7 (Or.inl rfl) dX11_late_37 ?_
  refine z_nm (fun M_9 g_9 => ?_)
  replace hP := hP M_9 g_9
  have q_9 := z_k1 g_9
  have ha := z_kk q_9 ha
  have k7 := z_kk q_9 k7
  exact z_toX (z_retv rfl dX11_late_40 hP)
set_option maxRecDepth 100000 in
def P_X11_foreign (a : Nat) (p1 : Int32) (p2 : Int32) (M : z_Mem) (Post : Int32 → z_Mem → Prop) (PX : String → z_Mem → Prop) : Prop := P_X11_requirePath p1 M (fun M_1 => P_X11_requireRange p2 1 30 M_1 (fun M_2 => z_nn (z_fr M_2 1408 a) fun a5 => (P_X5_putForeign a5 p1 p2 M_2 fun x_4 M_4 => (Post x_4 M_4))) PX) PX
set_option maxRecDepth 100000 in
set_option maxHeartbeats 4000000 in
theorem s_X11_foreign {G : z_G} {M : z_Mem} {a : Nat} {p1 : Int32} {p2 : Int32} {Post : Int32 → z_Mem → Prop} {PX : String → z_Mem → Prop} (hl9 : G.1.stackTraces = false) (ha : z_ki M a = 12) (hP : P_X11_foreign a p1 p2 M Post PX) : z_Mx G Y_X11_foreign M [z_O (some a), z_I p1, z_I p2] (z_PI Post) PX := by
  refine z_ofX (by decide) (Nat.le_of_ble_eq_true rfl) ?_
  unfold P_X11_foreign at hP
  refine z_sub (lv' := [(0, z_O (some a)), (1, z_I p1), (2, z_I p2)]) [0, 1, 2] rfl ?_
  refine z_iload_n dX11_foreign_0 rfl 1 rfl ?_
  refine z_wts (fun hT1 _ => ?_)
  refine z_xS (n := 1) (Y1 := Y_X11_requirePath) (st := []) rfl (s_X11_requirePath hl9  hP) rfl ⟨z_dc_X11_requirePath, ⟨(Nat.le_of_ble_eq_true rfl), (Nat.le_of_ble_eq_true rfl)⟩, (Nat.le_of_ble_eq_true rfl)⟩ rfl zw_541 zw_542 zw_1 zw_543 dX11_foreign_1 (fun _ _ h => h) (fun r_1 M_1 hP _ x1 => ?_)
  obtain ⟨rfl, hP⟩ := hP
  refine z_stk (st' := []) rfl ?_
  have ha := x1.k (k := 11) hT1 ha
  refine z_iload_n dX11_foreign_4 rfl 2 rfl ?_
  refine z_iconst (v := 1) dX11_foreign_5 (by decide) ?_
  refine z_bipush (v := 30) dX11_foreign_6 (by decide) ?_
  refine z_wts (fun hT2 _ => ?_)
  refine z_xS (n := 3) (Y1 := Y_X11_requireRange) (st := []) rfl (s_X11_requireRange hl9  hP) rfl ⟨z_dc_X11_requireRange, ⟨(Nat.le_of_ble_eq_true rfl), (Nat.le_of_ble_eq_true rfl)⟩, (Nat.le_of_ble_eq_true rfl)⟩ rfl zw_612 zw_613 zw_1 zw_614 dX11_foreign_8 (fun _ _ h => h) (fun r_2 M_2 hP _ x2 => ?_)
  obtain ⟨rfl, hP⟩ := hP
  refine z_stk (st' := []) rfl ?_
  have ha := x2.k (k := 11) hT2 ha
  refine z_pc (pc' := 11) rfl ?_
  refine z_aload_n dX11_foreign_11 rfl 0 rfl ?_
  refine z_getr (c := 11) (k := 0) (g := 1408) (t := 6) z_cb11 (Nat.le_of_ble_eq_true rfl) (Nat.le_of_ble_eq_true rfl) rfl rfl zw_489 rfl ha dX11_foreign_12 (fun f3 => ?_)
  refine z_iload_n dX11_foreign_15 rfl 1 rfl ?_
  refine z_iload_n dX11_foreign_16 rfl 2 rfl ?_
  obtain ⟨a5, e5, hP⟩ := hP
  have k5 := f3 a5 e5
  refine z_wts (fun hT4 _ => ?_)
  refine z_cVi (c := 5) (n := 2) (Y1 := Y_X5_putForeign) (st := []) e5 k5 z_cb5 (Nat.le_of_ble_eq_true rfl) rfl (s_X5_putForeign k5 hP) rfl ⟨z_dc_X5_putForeign, ⟨(Nat.le_of_ble_eq_true rfl), (Nat.le_of_ble_eq_true rfl)⟩, (Nat.le_of_ble_eq_true rfl)⟩ rfl zw_663 zw_664 zw_665 zw_2 zw_666 dX11_foreign_17 (fun x_4 M_4 hP _ x4 => ?_)
  have ha := x4.k (k := 11) hT4 ha
  exact z_toX (z_reti rfl dX11_foreign_20 hP)
set_option maxRecDepth 100000 in
def P_X11_requireStream (p1 : Int32) (M : z_Mem) (Post : z_Mem → Prop) (PX : String → z_Mem → Prop) : Prop := ((p1 < 0 → (z_room M 6 ∧ (∀ k n, k ≤ 1 → n ≤ 6 → PX "java/lang/IndexOutOfBoundsException" (z_exc M k n)))) ∧ (¬ p1 < 0 → ((p1 < 4 → Post M) ∧ (¬ p1 < 4 → (z_room M 6 ∧ (∀ k n, k ≤ 1 → n ≤ 6 → PX "java/lang/IndexOutOfBoundsException" (z_exc M k n)))))))
set_option maxRecDepth 100000 in
set_option maxHeartbeats 4000000 in
theorem s_X11_requireStream {G : z_G} {M : z_Mem} {p1 : Int32} {Post : z_Mem → Prop} {PX : String → z_Mem → Prop} (hl9 : G.1.stackTraces = false) (hP : P_X11_requireStream p1 M Post PX) : z_Mx G Y_X11_requireStream M [z_I p1] (z_PV Post) PX := by
  refine z_ofX (by decide) (Nat.le_of_ble_eq_true rfl) ?_
  unfold P_X11_requireStream at hP
  refine z_sub (lv' := [(0, z_I p1)]) [0] rfl ?_
  refine z_iload_n dX11_requireStream_0 rfl 0 rfl ?_
  refine z_if_lt (tgt := 9) dX11_requireStream_1 (by decide) (fun h1 => ?_) (fun h1 => ?_)
  · replace hP := hP.1 h1
    exact z_throw hl9 (by decide) (List.mem_of_getElem? (i := 0) rfl) zw_544 zw_16 (fun A U H h => by obtain ⟨-, -, f, t0, t1, t2, t3, t4, -⟩ := h; exact ⟨_, t2⟩) za_300 zb_300 zd_300 dX11_requireStream_9 dX11_requireStream_12 dX11_requireStream_13 dX11_requireStream_16 dX11_requireStream_19 (Nat.le_of_ble_eq_true rfl) (Nat.le_of_ble_eq_true rfl) hP.1 hP.2
  · replace hP := hP.2 h1
    refine z_iload_n dX11_requireStream_4 rfl 0 rfl ?_
    refine z_iconst (v := 4) dX11_requireStream_5 (by decide) ?_
    refine z_icmp_lt (tgt := 20) dX11_requireStream_6 (by decide) (fun h2 => ?_) (fun h2 => ?_)
    · replace hP := hP.1 h2
      exact z_toX (z_retv rfl dX11_requireStream_20 hP)
    · replace hP := hP.2 h2
      exact z_throw hl9 (by decide) (List.mem_of_getElem? (i := 0) rfl) zw_544 zw_16 (fun A U H h => by obtain ⟨-, -, f, t0, t1, t2, t3, t4, -⟩ := h; exact ⟨_, t2⟩) za_300 zb_300 zd_300 dX11_requireStream_9 dX11_requireStream_12 dX11_requireStream_13 dX11_requireStream_16 dX11_requireStream_19 (Nat.le_of_ble_eq_true rfl) (Nat.le_of_ble_eq_true rfl) hP.1 hP.2
set_option maxRecDepth 100000 in
def P_X11_read (a : Nat) (p1 : Int32) (p2 : Int32) (M : z_Mem) (Post : Int32 → z_Mem → Prop) (PX : String → z_Mem → Prop) : Prop := P_X11_requireStream p1 M (fun M_1 => P_X11_requireRange p2 1 200 M_1 (fun M_2 => z_nn (z_fr M_2 1409 a) fun a5 => (vp_in p1 (z_ln M_2 a5) ∧ (z_nn (z_fr M_2 1410 a) fun a8 => (P_X8_readBytes a8 (z_ar M_2 a5 ((p1 : Int32).toNatClampNeg)) p2 M_2 fun x_7 M_7 => (Post x_7 M_7))))) PX) PX
set_option maxRecDepth 100000 in
set_option maxHeartbeats 4000000 in
theorem s_X11_read {G : z_G} {M : z_Mem} {a : Nat} {p1 : Int32} {p2 : Int32} {Post : Int32 → z_Mem → Prop} {PX : String → z_Mem → Prop} (hl9 : G.1.stackTraces = false) (ha : z_ki M a = 12) (hP : P_X11_read a p1 p2 M Post PX) : z_Mx G Y_X11_read M [z_O (some a), z_I p1, z_I p2] (z_PI Post) PX := by
  refine z_ofX (by decide) (Nat.le_of_ble_eq_true rfl) ?_
  unfold P_X11_read at hP
  refine z_sub (lv' := [(0, z_O (some a)), (1, z_I p1), (2, z_I p2)]) [0, 1, 2] rfl ?_
  refine z_iload_n dX11_read_0 rfl 1 rfl ?_
  refine z_wts (fun hT1 _ => ?_)
  refine z_xS (n := 1) (Y1 := Y_X11_requireStream) (st := []) rfl (s_X11_requireStream hl9  hP) rfl ⟨z_dc_X11_requireStream, ⟨(Nat.le_of_ble_eq_true rfl), (Nat.le_of_ble_eq_true rfl)⟩, (Nat.le_of_ble_eq_true rfl)⟩ rfl zw_683 zw_684 zw_1 zw_685 dX11_read_1 (fun _ _ h => h) (fun r_1 M_1 hP _ x1 => ?_)
  obtain ⟨rfl, hP⟩ := hP
  refine z_stk (st' := []) rfl ?_
  have ha := x1.k (k := 11) hT1 ha
  refine z_iload_n dX11_read_4 rfl 2 rfl ?_
  refine z_iconst (v := 1) dX11_read_5 (by decide) ?_
  refine z_sipush (v := 200) dX11_read_6 (by decide) ?_
  refine z_wts (fun hT2 _ => ?_)
  refine z_xS (n := 3) (Y1 := Y_X11_requireRange) (st := []) rfl (s_X11_requireRange hl9  hP) rfl ⟨z_dc_X11_requireRange, ⟨(Nat.le_of_ble_eq_true rfl), (Nat.le_of_ble_eq_true rfl)⟩, (Nat.le_of_ble_eq_true rfl)⟩ rfl zw_612 zw_613 zw_1 zw_614 dX11_read_9 (fun _ _ h => h) (fun r_2 M_2 hP _ x2 => ?_)
  obtain ⟨rfl, hP⟩ := hP
  refine z_stk (st' := []) rfl ?_
  have ha := x2.k (k := 11) hT2 ha
  refine z_pc (pc' := 12) rfl ?_
  refine z_aload_n dX11_read_12 rfl 0 rfl ?_
  refine z_getr (c := 11) (k := 2) (g := 1410) (t := 9) z_cb11 (Nat.le_of_ble_eq_true rfl) (Nat.le_of_ble_eq_true rfl) rfl rfl zw_491 rfl ha dX11_read_13 (fun f3 => ?_)
  refine z_aload_n dX11_read_16 rfl 0 rfl ?_
  refine z_getr (c := 11) (k := 1) (g := 1409) (t := 24) z_cb11 (Nat.le_of_ble_eq_true rfl) (Nat.le_of_ble_eq_true rfl) rfl rfl zw_490 rfl ha dX11_read_17 (fun f4 => ?_)
  refine z_iload_n dX11_read_20 rfl 1 rfl ?_
  obtain ⟨a5, e5, hP⟩ := hP
  have k5 := f4 a5 e5
  obtain ⟨i6, hP⟩ := hP
  refine z_aald (t := 24) e5 k5 (Nat.le_of_ble_eq_true rfl) (Nat.le_of_ble_eq_true rfl) i6 dX11_read_21 (fun f6 => ?_)
  refine z_pc (pc' := 22) rfl ?_
  refine z_iload_n dX11_read_22 rfl 2 rfl ?_
  obtain ⟨a8, e8, hP⟩ := hP
  have k8 := f3 a8 e8
  refine z_wts (fun hT7 _ => ?_)
  refine z_cVi (c := 8) (n := 2) (Y1 := Y_X8_readBytes) (st := []) e8 k8 z_cb8 (Nat.le_of_ble_eq_true rfl) rfl (s_X8_readBytes k8 f6 hP) rfl ⟨z_dc_X8_readBytes, ⟨(Nat.le_of_ble_eq_true rfl), (Nat.le_of_ble_eq_true rfl)⟩, (Nat.le_of_ble_eq_true rfl)⟩ rfl zw_687 zw_688 zw_689 zw_8 zw_690 dX11_read_23 (fun x_7 M_7 hP _ x7 => ?_)
  have ha := x7.k (k := 11) hT7 ha
  exact z_toX (z_reti rfl dX11_read_26 hP)
set_option maxRecDepth 100000 in
def P_X11_requireState (p1 : Int32) (M : z_Mem) (Post : z_Mem → Prop) (PX : String → z_Mem → Prop) : Prop := ((p1 = 0 → (z_room M 6 ∧ (∀ k n, k ≤ 1 → n ≤ 6 → PX "java/lang/IllegalStateException" (z_exc M k n)))) ∧ (¬ p1 = 0 → Post M))
set_option maxRecDepth 100000 in
set_option maxHeartbeats 4000000 in
theorem s_X11_requireState {G : z_G} {M : z_Mem} {p1 : Int32} {Post : z_Mem → Prop} {PX : String → z_Mem → Prop} (hl9 : G.1.stackTraces = false) (f_p1 : p1 = 0 ∨ p1 = 1) (hP : P_X11_requireState p1 M Post PX) : z_Mx G Y_X11_requireState M [z_I p1] (z_PV Post) PX := by
  refine z_ofX (by decide) (Nat.le_of_ble_eq_true rfl) ?_
  unfold P_X11_requireState at hP
  refine z_sub (lv' := [(0, z_I p1)]) [0] rfl ?_
  refine z_iload_n dX11_requireState_0 rfl 0 rfl ?_
  refine z_if_ne (tgt := 15) dX11_requireState_1 (by decide) (fun h1 => ?_) (fun h1 => ?_)
  · replace hP := hP.2 h1
    exact z_toX (z_retv rfl dX11_requireState_15 hP)
  · replace hP := hP.1 h1
    exact z_throw hl9 (by decide) (List.mem_of_getElem? (i := 2) rfl) zw_768 zw_19 (fun A U H h => by obtain ⟨-, -, f, t0, t1, t2, t3, t4, -⟩ := h; exact ⟨_, t3⟩) za_316 zb_316 zd_316 dX11_requireState_4 dX11_requireState_7 dX11_requireState_8 dX11_requireState_11 dX11_requireState_14 (Nat.le_of_ble_eq_true rfl) (Nat.le_of_ble_eq_true rfl) hP.1 hP.2
set_option maxRecDepth 100000 in
def P_X11_connect (a : Nat) (p1 : Int32) (M : z_Mem) (Post : z_Mem → Prop) (PX : String → z_Mem → Prop) : Prop := P_X11_requireRange p1 (-1) 9 M (fun M_1 => z_nn (z_fr M_1 1411 a) fun a3 => ((((z_fi M_1 135 a3) = 0 → P_X11_requireState 1 M_1 (fun M_10 => z_nn (z_fr M_10 1411 a) fun a13 => (P_X1_beginHello a13 p1 M_10 fun M_12 => (Post M_12))) PX) ∧ (¬ (z_fi M_1 135 a3) = 0 → P_X11_requireState 0 M_1 (fun M_6 => z_nn (z_fr M_6 1411 a) fun a9 => (P_X1_beginHello a9 p1 M_6 fun M_8 => (Post M_8))) PX)))) PX
set_option maxRecDepth 100000 in
set_option maxHeartbeats 4000000 in
theorem s_X11_connect {G : z_G} {M : z_Mem} {a : Nat} {p1 : Int32} {Post : z_Mem → Prop} {PX : String → z_Mem → Prop} (hl9 : G.1.stackTraces = false) (ha : z_ki M a = 12) (hP : P_X11_connect a p1 M Post PX) : z_Mx G Y_X11_connect M [z_O (some a), z_I p1] (z_PV Post) PX := by
  refine z_ofX (by decide) (Nat.le_of_ble_eq_true rfl) ?_
  unfold P_X11_connect at hP
  refine z_sub (lv' := [(0, z_O (some a)), (1, z_I p1)]) [0, 1] rfl ?_
  refine z_iload_n dX11_connect_0 rfl 1 rfl ?_
  refine z_iconst (v := (-1)) dX11_connect_1 (by decide) ?_
  refine z_bipush (v := 9) dX11_connect_2 (by decide) ?_
  refine z_wts (fun hT1 _ => ?_)
  refine z_xS (n := 3) (Y1 := Y_X11_requireRange) (st := []) rfl (s_X11_requireRange hl9  hP) rfl ⟨z_dc_X11_requireRange, ⟨(Nat.le_of_ble_eq_true rfl), (Nat.le_of_ble_eq_true rfl)⟩, (Nat.le_of_ble_eq_true rfl)⟩ rfl zw_612 zw_613 zw_1 zw_614 dX11_connect_4 (fun _ _ h => h) (fun r_1 M_1 hP _ x1 => ?_)
  obtain ⟨rfl, hP⟩ := hP
  refine z_stk (st' := []) rfl ?_
  have ha := x1.k (k := 11) hT1 ha
  refine z_aload_n dX11_connect_7 rfl 0 rfl ?_
  refine z_getr (c := 11) (k := 3) (g := 1411) (t := 2) z_cb11 (Nat.le_of_ble_eq_true rfl) (Nat.le_of_ble_eq_true rfl) rfl rfl zw_492 rfl ha dX11_connect_8 (fun f2 => ?_)
  refine z_pc (pc' := 11) rfl ?_
  obtain ⟨a3, e3, hP⟩ := hP
  have k3 := f2 a3 e3
  refine z_geti (c := 1) (k := 7) (g := 135) z_cb1 (Nat.le_of_ble_eq_true rfl) (Nat.le_of_ble_eq_true rfl) rfl (Nat.le_of_ble_eq_true rfl) zw_434 e3 k3 dX11_connect_11 ?_
  refine z_if_ne (tgt := 21) dX11_connect_14 (by decide) (fun h5 => ?_) (fun h5 => ?_)
  · replace hP := hP.2 h5
    refine z_iconst (v := 0) dX11_connect_21 (by decide) ?_
    refine z_wts (fun hT6 _ => ?_)
    refine z_xS (n := 1) (Y1 := Y_X11_requireState) (st := []) rfl (s_X11_requireState hl9 (Or.inl rfl) hP) rfl ⟨z_dc_X11_requireState, ⟨(Nat.le_of_ble_eq_true rfl), (Nat.le_of_ble_eq_true rfl)⟩, (Nat.le_of_ble_eq_true rfl)⟩ rfl zw_765 zw_766 zw_1 zw_767 dX11_connect_22 (fun _ _ h => h) (fun r_6 M_6 hP _ x6 => ?_)
    obtain ⟨rfl, hP⟩ := hP
    refine z_stk (st' := []) rfl ?_
    have ha := x6.k (k := 11) hT6 ha
    refine z_aload_n dX11_connect_25 rfl 0 rfl ?_
    refine z_getr (c := 11) (k := 3) (g := 1411) (t := 2) z_cb11 (Nat.le_of_ble_eq_true rfl) (Nat.le_of_ble_eq_true rfl) rfl rfl zw_492 rfl ha dX11_connect_26 (fun f7 => ?_)
    refine z_iload_n dX11_connect_29 rfl 1 rfl ?_
    refine z_pc (pc' := 30) rfl ?_
    obtain ⟨a9, e9, hP⟩ := hP
    have k9 := f7 a9 e9
    refine z_wts (fun hT8 _ => ?_)
    refine z_cVv (c := 1) (n := 1) (Y1 := Y_X1_beginHello) (st := []) e9 k9 z_cb1 (Nat.le_of_ble_eq_true rfl) rfl (s_X1_beginHello k9 hP) rfl ⟨z_dc_X1_beginHello, ⟨(Nat.le_of_ble_eq_true rfl), (Nat.le_of_ble_eq_true rfl)⟩, (Nat.le_of_ble_eq_true rfl)⟩ rfl zw_784 zw_785 zw_786 zw_9 zw_787 dX11_connect_30 (fun M_8 hP _ x8 => ?_)
    have ha := x8.k (k := 11) hT8 ha
    exact z_toX (z_retv rfl dX11_connect_33 hP)
  · replace hP := hP.1 h5
    refine z_iconst (v := 1) dX11_connect_17 (by decide) ?_
    refine z_goto (tgt := 22) dX11_connect_18 (by decide) ?_
    refine z_wts (fun hT10 _ => ?_)
    refine z_xS (n := 1) (Y1 := Y_X11_requireState) (st := []) rfl (s_X11_requireState hl9 (Or.inr rfl) hP) rfl ⟨z_dc_X11_requireState, ⟨(Nat.le_of_ble_eq_true rfl), (Nat.le_of_ble_eq_true rfl)⟩, (Nat.le_of_ble_eq_true rfl)⟩ rfl zw_765 zw_766 zw_1 zw_767 dX11_connect_22 (fun _ _ h => h) (fun r_10 M_10 hP _ x10 => ?_)
    obtain ⟨rfl, hP⟩ := hP
    refine z_stk (st' := []) rfl ?_
    have ha := x10.k (k := 11) hT10 ha
    refine z_aload_n dX11_connect_25 rfl 0 rfl ?_
    refine z_getr (c := 11) (k := 3) (g := 1411) (t := 2) z_cb11 (Nat.le_of_ble_eq_true rfl) (Nat.le_of_ble_eq_true rfl) rfl rfl zw_492 rfl ha dX11_connect_26 (fun f11 => ?_)
    refine z_iload_n dX11_connect_29 rfl 1 rfl ?_
    refine z_pc (pc' := 30) rfl ?_
    obtain ⟨a13, e13, hP⟩ := hP
    have k13 := f11 a13 e13
    refine z_wts (fun hT12 _ => ?_)
    refine z_cVv (c := 1) (n := 1) (Y1 := Y_X1_beginHello) (st := []) e13 k13 z_cb1 (Nat.le_of_ble_eq_true rfl) rfl (s_X1_beginHello k13 hP) rfl ⟨z_dc_X1_beginHello, ⟨(Nat.le_of_ble_eq_true rfl), (Nat.le_of_ble_eq_true rfl)⟩, (Nat.le_of_ble_eq_true rfl)⟩ rfl zw_784 zw_785 zw_786 zw_9 zw_787 dX11_connect_30 (fun M_12 hP _ x12 => ?_)
    have ha := x12.k (k := 11) hT12 ha
    exact z_toX (z_retv rfl dX11_connect_33 hP)
set_option maxRecDepth 100000 in
def P_X11_write (a : Nat) (p1 : Int32) (p2 : Int32) (M : z_Mem) (Post : Int32 → z_Mem → Prop) (PX : String → z_Mem → Prop) : Prop := P_X11_requireStream p1 M (fun M_1 => P_X11_requireRange p2 1 200 M_1 (fun M_2 => z_nn (z_fr M_2 1409 a) fun a4 => (vp_in p1 (z_ln M_2 a4) ∧ (z_nn (z_ar M_2 a4 ((p1 : Int32).toNatClampNeg)) fun a6 => (((200 < ((z_fi M_2 1152 a6) + p2) → P_X11_requireState 0 M_2 (fun M_9 => ∀ M_11 : z_Mem, M_11 = z_sfi M_9 1152 a6 ((z_fi M_9 1152 a6) + p2) → (Post (z_fi M_11 1152 a6) M_11)) PX) ∧ (¬ 200 < ((z_fi M_2 1152 a6) + p2) → P_X11_requireState 1 M_2 (fun M_13 => ∀ M_15 : z_Mem, M_15 = z_sfi M_13 1152 a6 ((z_fi M_13 1152 a6) + p2) → (Post (z_fi M_15 1152 a6) M_15)) PX)))))) PX) PX
set_option maxRecDepth 100000 in
set_option maxHeartbeats 4000000 in
theorem s_X11_write {G : z_G} {M : z_Mem} {a : Nat} {p1 : Int32} {p2 : Int32} {Post : Int32 → z_Mem → Prop} {PX : String → z_Mem → Prop} (hl9 : G.1.stackTraces = false) (ha : z_ki M a = 12) (hP : P_X11_write a p1 p2 M Post PX) : z_Mx G Y_X11_write M [z_O (some a), z_I p1, z_I p2] (z_PI Post) PX := by
  refine z_ofX (by decide) (Nat.le_of_ble_eq_true rfl) ?_
  unfold P_X11_write at hP
  refine z_sub (lv' := [(0, z_O (some a)), (1, z_I p1), (2, z_I p2)]) [0, 1, 2] rfl ?_
  refine z_iload_n dX11_write_0 rfl 1 rfl ?_
  refine z_wts (fun hT1 _ => ?_)
  refine z_xS (n := 1) (Y1 := Y_X11_requireStream) (st := []) rfl (s_X11_requireStream hl9  hP) rfl ⟨z_dc_X11_requireStream, ⟨(Nat.le_of_ble_eq_true rfl), (Nat.le_of_ble_eq_true rfl)⟩, (Nat.le_of_ble_eq_true rfl)⟩ rfl zw_683 zw_684 zw_1 zw_685 dX11_write_1 (fun _ _ h => h) (fun r_1 M_1 hP _ x1 => ?_)
  obtain ⟨rfl, hP⟩ := hP
  refine z_stk (st' := []) rfl ?_
  have ha := x1.k (k := 11) hT1 ha
  refine z_iload_n dX11_write_4 rfl 2 rfl ?_
  refine z_iconst (v := 1) dX11_write_5 (by decide) ?_
  refine z_sipush (v := 200) dX11_write_6 (by decide) ?_
  refine z_wts (fun hT2 _ => ?_)
  refine z_xS (n := 3) (Y1 := Y_X11_requireRange) (st := []) rfl (s_X11_requireRange hl9  hP) rfl ⟨z_dc_X11_requireRange, ⟨(Nat.le_of_ble_eq_true rfl), (Nat.le_of_ble_eq_true rfl)⟩, (Nat.le_of_ble_eq_true rfl)⟩ rfl zw_612 zw_613 zw_1 zw_614 dX11_write_9 (fun _ _ h => h) (fun r_2 M_2 hP _ x2 => ?_)
  obtain ⟨rfl, hP⟩ := hP
  refine z_stk (st' := []) rfl ?_
  have ha := x2.k (k := 11) hT2 ha
  refine z_pc (pc' := 12) rfl ?_
  refine z_aload_n dX11_write_12 rfl 0 rfl ?_
  refine z_getr (c := 11) (k := 1) (g := 1409) (t := 24) z_cb11 (Nat.le_of_ble_eq_true rfl) (Nat.le_of_ble_eq_true rfl) rfl rfl zw_490 rfl ha dX11_write_13 (fun f3 => ?_)
  refine z_iload_n dX11_write_16 rfl 1 rfl ?_
  obtain ⟨a4, e4, hP⟩ := hP
  have k4 := f3 a4 e4
  obtain ⟨i5, hP⟩ := hP
  refine z_aald (t := 24) e4 k4 (Nat.le_of_ble_eq_true rfl) (Nat.le_of_ble_eq_true rfl) i5 dX11_write_17 (fun f5 => ?_)
  refine z_astore_n (lv' := [(3, z_O _), (0, z_O _), (1, z_I _), (2, z_I _)]) dX11_write_18 rfl (Nat.le_of_ble_eq_true rfl) rfl ?_
  refine z_aload_n dX11_write_19 rfl 0 rfl ?_
  refine z_pc (pc' := 20) rfl ?_
  obtain ⟨a6, e6, hP⟩ := hP
  have k6 := f5 a6 e6
  refine z_geti (c := 9) (k := 0) (g := 1152) z_cb9 (Nat.le_of_ble_eq_true rfl) (Nat.le_of_ble_eq_true rfl) rfl (Nat.le_of_ble_eq_true rfl) zw_189 e6 k6 dX11_write_20 ?_
  refine z_iload_n dX11_write_23 rfl 3 rfl ?_
  refine z_iadd dX11_write_24 ?_
  refine z_sipush (v := 200) dX11_write_25 (by decide) ?_
  refine z_icmp_gt (tgt := 35) dX11_write_28 (by decide) (fun h8 => ?_) (fun h8 => ?_)
  · replace hP := hP.1 h8
    refine z_iconst (v := 0) dX11_write_35 (by decide) ?_
    refine z_wts (fun hT9 _ => ?_)
    refine z_xS (n := 1) (Y1 := Y_X11_requireState) (st := []) rfl (s_X11_requireState hl9 (Or.inl rfl) hP) rfl ⟨z_dc_X11_requireState, ⟨(Nat.le_of_ble_eq_true rfl), (Nat.le_of_ble_eq_true rfl)⟩, (Nat.le_of_ble_eq_true rfl)⟩ rfl zw_765 zw_766 zw_1 zw_767 dX11_write_36 (fun _ _ h => h) (fun r_9 M_9 hP _ x9 => ?_)
    obtain ⟨rfl, hP⟩ := hP
    refine z_stk (st' := []) rfl ?_
    have ha := x9.k (k := 11) hT9 ha
    have k6 := x9.k (k := 9) hT9 k6
    refine z_pc (pc' := 39) rfl ?_
    refine z_aload_n dX11_write_39 rfl 0 rfl ?_
    refine z_dup dX11_write_40 rfl ?_
    refine z_geti (c := 9) (k := 0) (g := 1152) z_cb9 (Nat.le_of_ble_eq_true rfl) (Nat.le_of_ble_eq_true rfl) rfl (Nat.le_of_ble_eq_true rfl) zw_189 e6 k6 dX11_write_41 ?_
    refine z_iload_n dX11_write_44 rfl 3 rfl ?_
    refine z_iadd dX11_write_45 ?_
    refine z_puti (c := 9) (k := 0) (g := 1152) z_cb9 (Nat.le_of_ble_eq_true rfl) (Nat.le_of_ble_eq_true rfl) (Nat.le_of_ble_eq_true rfl) rfl rfl rfl zw_189 e6 k6 (Or.inl rfl) dX11_write_46 ?_
    refine z_nm (fun M_11 g_11 => ?_)
    replace hP := hP M_11 g_11
    have q_11 := z_k1 g_11
    have ha := z_kk q_11 ha
    have k6 := z_kk q_11 k6
    refine z_pc (pc' := 49) rfl ?_
    refine z_aload_n dX11_write_49 rfl 0 rfl ?_
    refine z_geti (c := 9) (k := 0) (g := 1152) z_cb9 (Nat.le_of_ble_eq_true rfl) (Nat.le_of_ble_eq_true rfl) rfl (Nat.le_of_ble_eq_true rfl) zw_189 e6 k6 dX11_write_50 ?_
    exact z_toX (z_reti rfl dX11_write_53 hP)
  · replace hP := hP.2 h8
    refine z_iconst (v := 1) dX11_write_31 (by decide) ?_
    refine z_goto (tgt := 36) dX11_write_32 (by decide) ?_
    refine z_wts (fun hT13 _ => ?_)
    refine z_xS (n := 1) (Y1 := Y_X11_requireState) (st := []) rfl (s_X11_requireState hl9 (Or.inr rfl) hP) rfl ⟨z_dc_X11_requireState, ⟨(Nat.le_of_ble_eq_true rfl), (Nat.le_of_ble_eq_true rfl)⟩, (Nat.le_of_ble_eq_true rfl)⟩ rfl zw_765 zw_766 zw_1 zw_767 dX11_write_36 (fun _ _ h => h) (fun r_13 M_13 hP _ x13 => ?_)
    obtain ⟨rfl, hP⟩ := hP
    refine z_stk (st' := []) rfl ?_
    have ha := x13.k (k := 11) hT13 ha
    have k6 := x13.k (k := 9) hT13 k6
    refine z_pc (pc' := 39) rfl ?_
    refine z_aload_n dX11_write_39 rfl 0 rfl ?_
    refine z_dup dX11_write_40 rfl ?_
    refine z_geti (c := 9) (k := 0) (g := 1152) z_cb9 (Nat.le_of_ble_eq_true rfl) (Nat.le_of_ble_eq_true rfl) rfl (Nat.le_of_ble_eq_true rfl) zw_189 e6 k6 dX11_write_41 ?_
    refine z_iload_n dX11_write_44 rfl 3 rfl ?_
    refine z_iadd dX11_write_45 ?_
    refine z_puti (c := 9) (k := 0) (g := 1152) z_cb9 (Nat.le_of_ble_eq_true rfl) (Nat.le_of_ble_eq_true rfl) (Nat.le_of_ble_eq_true rfl) rfl rfl rfl zw_189 e6 k6 (Or.inl rfl) dX11_write_46 ?_
    refine z_nm (fun M_15 g_15 => ?_)
    replace hP := hP M_15 g_15
    have q_15 := z_k1 g_15
    have ha := z_kk q_15 ha
    have k6 := z_kk q_15 k6
    refine z_pc (pc' := 49) rfl ?_
    refine z_aload_n dX11_write_49 rfl 0 rfl ?_
    refine z_geti (c := 9) (k := 0) (g := 1152) z_cb9 (Nat.le_of_ble_eq_true rfl) (Nat.le_of_ble_eq_true rfl) rfl (Nat.le_of_ble_eq_true rfl) zw_189 e6 k6 dX11_write_50 ?_
    exact z_toX (z_reti rfl dX11_write_53 hP)
set_option maxRecDepth 100000 in
def P_X11_setWay (a : Nat) (p1 : Int32) (p2 : Int32) (M : z_Mem) (Post : Int32 → z_Mem → Prop) (PX : String → z_Mem → Prop) : Prop := P_X11_requirePath p1 M (fun M_1 => P_X11_requireRange p2 0 2 M_1 (fun M_2 => z_nn (z_fr M_2 1411 a) fun a5 => (P_X1_routeOf a5 p1 M_2 fun x_4 M_4 => (z_nn x_4 fun a6 => (z_nn (z_fr M_4 897 a6) fun a8 => (∀ x_10 : Int32, x_10 = (z_fi M_4 256 a8) → (∀ M_11 : z_Mem, M_11 = z_sfi M_4 256 a8 p2 → (Post x_10 M_11))))))) PX) PX
set_option maxRecDepth 100000 in
set_option maxHeartbeats 4000000 in
theorem s_X11_setWay {G : z_G} {M : z_Mem} {a : Nat} {p1 : Int32} {p2 : Int32} {Post : Int32 → z_Mem → Prop} {PX : String → z_Mem → Prop} (hl9 : G.1.stackTraces = false) (ha : z_ki M a = 12) (hP : P_X11_setWay a p1 p2 M Post PX) : z_Mx G Y_X11_setWay M [z_O (some a), z_I p1, z_I p2] (z_PI Post) PX := by
  refine z_ofX (by decide) (Nat.le_of_ble_eq_true rfl) ?_
  unfold P_X11_setWay at hP
  refine z_sub (lv' := [(0, z_O (some a)), (1, z_I p1), (2, z_I p2)]) [0, 1, 2] rfl ?_
  refine z_iload_n dX11_setWay_0 rfl 1 rfl ?_
  refine z_wts (fun hT1 _ => ?_)
  refine z_xS (n := 1) (Y1 := Y_X11_requirePath) (st := []) rfl (s_X11_requirePath hl9  hP) rfl ⟨z_dc_X11_requirePath, ⟨(Nat.le_of_ble_eq_true rfl), (Nat.le_of_ble_eq_true rfl)⟩, (Nat.le_of_ble_eq_true rfl)⟩ rfl zw_541 zw_542 zw_1 zw_543 dX11_setWay_1 (fun _ _ h => h) (fun r_1 M_1 hP _ x1 => ?_)
  obtain ⟨rfl, hP⟩ := hP
  refine z_stk (st' := []) rfl ?_
  have ha := x1.k (k := 11) hT1 ha
  refine z_iload_n dX11_setWay_4 rfl 2 rfl ?_
  refine z_iconst (v := 0) dX11_setWay_5 (by decide) ?_
  refine z_iconst (v := 2) dX11_setWay_6 (by decide) ?_
  refine z_wts (fun hT2 _ => ?_)
  refine z_xS (n := 3) (Y1 := Y_X11_requireRange) (st := []) rfl (s_X11_requireRange hl9  hP) rfl ⟨z_dc_X11_requireRange, ⟨(Nat.le_of_ble_eq_true rfl), (Nat.le_of_ble_eq_true rfl)⟩, (Nat.le_of_ble_eq_true rfl)⟩ rfl zw_612 zw_613 zw_1 zw_614 dX11_setWay_7 (fun _ _ h => h) (fun r_2 M_2 hP _ x2 => ?_)
  obtain ⟨rfl, hP⟩ := hP
  refine z_stk (st' := []) rfl ?_
  have ha := x2.k (k := 11) hT2 ha
  refine z_pc (pc' := 10) rfl ?_
  refine z_aload_n dX11_setWay_10 rfl 0 rfl ?_
  refine z_getr (c := 11) (k := 3) (g := 1411) (t := 2) z_cb11 (Nat.le_of_ble_eq_true rfl) (Nat.le_of_ble_eq_true rfl) rfl rfl zw_492 rfl ha dX11_setWay_11 (fun f3 => ?_)
  refine z_iload_n dX11_setWay_14 rfl 1 rfl ?_
  obtain ⟨a5, e5, hP⟩ := hP
  have k5 := f3 a5 e5
  refine z_wts (fun hT4 _ => ?_)
  refine z_cVo (c := 1) (n := 1) (Y1 := Y_X1_routeOf) (st := []) e5 k5 z_cb1 (Nat.le_of_ble_eq_true rfl) rfl (s_X1_routeOf k5 hP) rfl ⟨z_dc_X1_routeOf, ⟨(Nat.le_of_ble_eq_true rfl), (Nat.le_of_ble_eq_true rfl)⟩, (Nat.le_of_ble_eq_true rfl)⟩ rfl zw_817 zw_818 zw_819 zw_9 zw_820 dX11_setWay_15 (fun x_4 M_4 f4 hP _ x4 => ?_)
  have ha := x4.k (k := 11) hT4 ha
  obtain ⟨a6, e6, hP⟩ := hP
  have k6 := f4 a6 e6
  refine z_getr (c := 7) (k := 1) (g := 897) (t := 3) z_cb7 (Nat.le_of_ble_eq_true rfl) (Nat.le_of_ble_eq_true rfl) rfl rfl zw_352 e6 k6 dX11_setWay_18 (fun f7 => ?_)
  refine z_astore_n (lv' := [(3, z_O _), (0, z_O _), (1, z_I _), (2, z_I _)]) dX11_setWay_21 rfl (Nat.le_of_ble_eq_true rfl) rfl ?_
  refine z_pc (pc' := 22) rfl ?_
  refine z_aload_n dX11_setWay_22 rfl 0 rfl ?_
  obtain ⟨a8, e8, hP⟩ := hP
  have k8 := f7 a8 e8
  refine z_geti (c := 2) (k := 0) (g := 256) z_cb2 (Nat.le_of_ble_eq_true rfl) (Nat.le_of_ble_eq_true rfl) rfl (Nat.le_of_ble_eq_true rfl) zw_311 e8 k8 dX11_setWay_23 ?_
  refine z_topi (fun x_10 y_10 => ?_)
  replace hP := hP x_10 y_10
  refine z_istore (lv' := [(4, z_I _), (3, z_O _), (0, z_O _), (1, z_I _), (2, z_I _)]) dX11_setWay_26 (Nat.le_of_ble_eq_true rfl) rfl ?_
  refine z_aload_n dX11_setWay_28 rfl 1 rfl ?_
  refine z_iload_n dX11_setWay_29 rfl 4 rfl ?_
  refine z_puti (c := 2) (k := 0) (g := 256) z_cb2 (Nat.le_of_ble_eq_true rfl) (Nat.le_of_ble_eq_true rfl) (Nat.le_of_ble_eq_true rfl) rfl rfl rfl zw_311 e8 k8 (Or.inl rfl) dX11_setWay_30 ?_
  refine z_nm (fun M_11 g_11 => ?_)
  replace hP := hP M_11 g_11
  have q_11 := z_k1 g_11
  have ha := z_kk q_11 ha
  have k8 := z_kk q_11 k8
  refine z_pc (pc' := 33) rfl ?_
  refine z_iload dX11_setWay_33 0 rfl ?_
  exact z_toX (z_reti rfl dX11_setWay_35 hP)
set_option maxRecDepth 100000 in
def P_X11_check (a : Nat) (p1 : Int32) (M : z_Mem) (Post : z_Mem → Prop) (PX : String → z_Mem → Prop) : Prop := P_X11_requirePath p1 M (fun M_1 => z_nn (z_fr M_1 1411 a) fun a3 => ((((z_fi M_1 135 a3) = 2 → P_X11_requireState 1 M_1 (fun M_13 => z_room M_13 8 ∧ (∀ M_16 : z_Mem, M_16 = z_new M_13 5 8 → (P_X4_init (z_sz M_13) 5 M_16 fun M_17 => (z_nn (z_fr M_13 1408 a) fun a19 => (P_X5_putToServer a19 p1 (some (z_sz M_13)) M_17 fun M_18 => (Post M_18)))))) PX) ∧ (¬ (z_fi M_1 135 a3) = 2 → P_X11_requireState 0 M_1 (fun M_6 => z_room M_6 8 ∧ (∀ M_9 : z_Mem, M_9 = z_new M_6 5 8 → (P_X4_init (z_sz M_6) 5 M_9 fun M_10 => (z_nn (z_fr M_6 1408 a) fun a12 => (P_X5_putToServer a12 p1 (some (z_sz M_6)) M_10 fun M_11 => (Post M_11)))))) PX)))) PX
set_option maxRecDepth 100000 in
set_option maxHeartbeats 4000000 in
theorem s_X11_check {G : z_G} {M : z_Mem} {a : Nat} {p1 : Int32} {Post : z_Mem → Prop} {PX : String → z_Mem → Prop} (hl9 : G.1.stackTraces = false) (ha : z_ki M a = 12) (hP : P_X11_check a p1 M Post PX) : z_Mx G Y_X11_check M [z_O (some a), z_I p1] (z_PV Post) PX := by
  refine z_ofX (by decide) (Nat.le_of_ble_eq_true rfl) ?_
  unfold P_X11_check at hP
  refine z_sub (lv' := [(0, z_O (some a)), (1, z_I p1)]) [0, 1] rfl ?_
  refine z_iload_n dX11_check_0 rfl 1 rfl ?_
  refine z_wts (fun hT1 _ => ?_)
  refine z_xS (n := 1) (Y1 := Y_X11_requirePath) (st := []) rfl (s_X11_requirePath hl9  hP) rfl ⟨z_dc_X11_requirePath, ⟨(Nat.le_of_ble_eq_true rfl), (Nat.le_of_ble_eq_true rfl)⟩, (Nat.le_of_ble_eq_true rfl)⟩ rfl zw_541 zw_542 zw_1 zw_543 dX11_check_1 (fun _ _ h => h) (fun r_1 M_1 hP _ x1 => ?_)
  obtain ⟨rfl, hP⟩ := hP
  refine z_stk (st' := []) rfl ?_
  have ha := x1.k (k := 11) hT1 ha
  refine z_aload_n dX11_check_4 rfl 0 rfl ?_
  refine z_getr (c := 11) (k := 3) (g := 1411) (t := 2) z_cb11 (Nat.le_of_ble_eq_true rfl) (Nat.le_of_ble_eq_true rfl) rfl rfl zw_492 rfl ha dX11_check_5 (fun f2 => ?_)
  obtain ⟨a3, e3, hP⟩ := hP
  have k3 := f2 a3 e3
  refine z_geti (c := 1) (k := 7) (g := 135) z_cb1 (Nat.le_of_ble_eq_true rfl) (Nat.le_of_ble_eq_true rfl) rfl (Nat.le_of_ble_eq_true rfl) zw_434 e3 k3 dX11_check_8 ?_
  refine z_iconst (v := 2) dX11_check_11 (by decide) ?_
  refine z_pc (pc' := 12) rfl ?_
  refine z_icmp_ne (tgt := 19) dX11_check_12 (by decide) (fun h5 => ?_) (fun h5 => ?_)
  · replace hP := hP.2 h5
    refine z_iconst (v := 0) dX11_check_19 (by decide) ?_
    refine z_wts (fun hT6 _ => ?_)
    refine z_xS (n := 1) (Y1 := Y_X11_requireState) (st := []) rfl (s_X11_requireState hl9 (Or.inl rfl) hP) rfl ⟨z_dc_X11_requireState, ⟨(Nat.le_of_ble_eq_true rfl), (Nat.le_of_ble_eq_true rfl)⟩, (Nat.le_of_ble_eq_true rfl)⟩ rfl zw_765 zw_766 zw_1 zw_767 dX11_check_20 (fun _ _ h => h) (fun r_6 M_6 hP _ x6 => ?_)
    obtain ⟨rfl, hP⟩ := hP
    refine z_stk (st' := []) rfl ?_
    have ha := x6.k (k := 11) hT6 ha
    refine z_aload_n dX11_check_23 rfl 0 rfl ?_
    refine z_getr (c := 11) (k := 0) (g := 1408) (t := 6) z_cb11 (Nat.le_of_ble_eq_true rfl) (Nat.le_of_ble_eq_true rfl) rfl rfl zw_489 rfl ha dX11_check_24 (fun f7 => ?_)
    refine z_iload_n dX11_check_27 rfl 1 rfl ?_
    obtain ⟨r8, hP⟩ := hP
    refine z_wts (fun hT8 _ => ?_)
    refine z_newo (c := 4) z_cb4 (Nat.le_of_ble_eq_true rfl) rfl z_df4 zw_828 zw_115 zw_6 r8 dX11_check_28 (fun x8 k8 => ?_)
    refine z_nm (fun M_9 g_9 => ?_)
    replace hP := hP M_9 g_9
    have x8 := z_xe g_9 x8
    have k8 := z_xk g_9 k8
    have ha := x8.k (k := 11) hT8 ha
    have f7 := x8.t (k := 5) hT8 f7
    refine z_pc (pc' := 31) rfl ?_
    refine z_dup dX11_check_31 rfl ?_
    refine z_iconst (v := 5) dX11_check_32 (by decide) ?_
    refine z_wts (fun hT10 _ => ?_)
    refine z_cIv (n := 1) (Y1 := Y_X4_init) (st := [z_O _, z_I _, z_O _]) rfl (s_X4_init k8 hP) rfl rfl rfl ⟨z_dc_X4_init, ⟨(Nat.le_of_ble_eq_true rfl), (Nat.le_of_ble_eq_true rfl)⟩, (Nat.le_of_ble_eq_true rfl)⟩ rfl zw_829 zw_117 zw_6 zw_118 dX11_check_33 (fun M_10 hP _ x10 => ?_)
    have ha := x10.k (k := 11) hT10 ha
    have k8 := x10.k (k := 4) hT10 k8
    have f7 := x10.t (k := 5) hT10 f7
    obtain ⟨a12, e12, hP⟩ := hP
    have k12 := f7 a12 e12
    refine z_wts (fun hT11 _ => ?_)
    refine z_cVv (c := 5) (n := 2) (Y1 := Y_X5_putToServer) (st := []) e12 k12 z_cb5 (Nat.le_of_ble_eq_true rfl) rfl (s_X5_putToServer k12 (z_trn rfl k8) hP) rfl ⟨z_dc_X5_putToServer, ⟨(Nat.le_of_ble_eq_true rfl), (Nat.le_of_ble_eq_true rfl)⟩, (Nat.le_of_ble_eq_true rfl)⟩ rfl zw_830 zw_795 zw_796 zw_2 zw_797 dX11_check_36 (fun M_11 hP _ x11 => ?_)
    have ha := x11.k (k := 11) hT11 ha
    exact z_toX (z_retv rfl dX11_check_39 hP)
  · replace hP := hP.1 h5
    refine z_iconst (v := 1) dX11_check_15 (by decide) ?_
    refine z_goto (tgt := 20) dX11_check_16 (by decide) ?_
    refine z_wts (fun hT13 _ => ?_)
    refine z_xS (n := 1) (Y1 := Y_X11_requireState) (st := []) rfl (s_X11_requireState hl9 (Or.inr rfl) hP) rfl ⟨z_dc_X11_requireState, ⟨(Nat.le_of_ble_eq_true rfl), (Nat.le_of_ble_eq_true rfl)⟩, (Nat.le_of_ble_eq_true rfl)⟩ rfl zw_765 zw_766 zw_1 zw_767 dX11_check_20 (fun _ _ h => h) (fun r_13 M_13 hP _ x13 => ?_)
    obtain ⟨rfl, hP⟩ := hP
    refine z_stk (st' := []) rfl ?_
    have ha := x13.k (k := 11) hT13 ha
    refine z_aload_n dX11_check_23 rfl 0 rfl ?_
    refine z_getr (c := 11) (k := 0) (g := 1408) (t := 6) z_cb11 (Nat.le_of_ble_eq_true rfl) (Nat.le_of_ble_eq_true rfl) rfl rfl zw_489 rfl ha dX11_check_24 (fun f14 => ?_)
    refine z_iload_n dX11_check_27 rfl 1 rfl ?_
    obtain ⟨r15, hP⟩ := hP
    refine z_wts (fun hT15 _ => ?_)
    refine z_newo (c := 4) z_cb4 (Nat.le_of_ble_eq_true rfl) rfl z_df4 zw_828 zw_115 zw_6 r15 dX11_check_28 (fun x15 k15 => ?_)
    refine z_nm (fun M_16 g_16 => ?_)
    replace hP := hP M_16 g_16
    have x15 := z_xe g_16 x15
    have k15 := z_xk g_16 k15
    have ha := x15.k (k := 11) hT15 ha
    have f14 := x15.t (k := 5) hT15 f14
    refine z_pc (pc' := 31) rfl ?_
    refine z_dup dX11_check_31 rfl ?_
    refine z_iconst (v := 5) dX11_check_32 (by decide) ?_
    refine z_wts (fun hT17 _ => ?_)
    refine z_cIv (n := 1) (Y1 := Y_X4_init) (st := [z_O _, z_I _, z_O _]) rfl (s_X4_init k15 hP) rfl rfl rfl ⟨z_dc_X4_init, ⟨(Nat.le_of_ble_eq_true rfl), (Nat.le_of_ble_eq_true rfl)⟩, (Nat.le_of_ble_eq_true rfl)⟩ rfl zw_829 zw_117 zw_6 zw_118 dX11_check_33 (fun M_17 hP _ x17 => ?_)
    have ha := x17.k (k := 11) hT17 ha
    have k15 := x17.k (k := 4) hT17 k15
    have f14 := x17.t (k := 5) hT17 f14
    obtain ⟨a19, e19, hP⟩ := hP
    have k19 := f14 a19 e19
    refine z_wts (fun hT18 _ => ?_)
    refine z_cVv (c := 5) (n := 2) (Y1 := Y_X5_putToServer) (st := []) e19 k19 z_cb5 (Nat.le_of_ble_eq_true rfl) rfl (s_X5_putToServer k19 (z_trn rfl k15) hP) rfl ⟨z_dc_X5_putToServer, ⟨(Nat.le_of_ble_eq_true rfl), (Nat.le_of_ble_eq_true rfl)⟩, (Nat.le_of_ble_eq_true rfl)⟩ rfl zw_830 zw_795 zw_796 zw_2 zw_797 dX11_check_36 (fun M_18 hP _ x18 => ?_)
    have ha := x18.k (k := 11) hT18 ha
    exact z_toX (z_retv rfl dX11_check_39 hP)
def P_X11_use_56 (a : Nat) (Post : Int32 → z_Mem → Prop) (PX : String → z_Mem → Prop)  (x1 : Int32) (t0 : Int32) (M : z_Mem) : Prop := P_X11_requireState t0 M (fun M_1 => z_nn (z_fr M_1 1411 a) fun a3 => (∀ x_5 : Int32, x_5 = (z_fi M_1 143 a3) → (z_nn (z_fr M_1 1411 a) fun a7 => (∀ M_8 : z_Mem, M_8 = z_sfi M_1 143 a7 x1 → (Post x_5 M_8))))) PX
def P_X11_use_51 (a : Nat) (Post : Int32 → z_Mem → Prop) (PX : String → z_Mem → Prop)  (x1 : Int32) (M : z_Mem) : Prop := P_X11_use_56 a Post PX x1 1 M
def P_X11_use_30 (a : Nat) (Post : Int32 → z_Mem → Prop) (PX : String → z_Mem → Prop)  (x1 : Int32) (t0 : Int32) (M : z_Mem) : Prop := P_X11_requireState t0 M (fun M_9 => ((x1 = 0 → P_X11_use_51 a Post PX x1 M_9) ∧ (¬ x1 = 0 → z_nn (z_fr M_9 1411 a) fun a13 => (P_X1_routeOf a13 1 M_9 fun x_12 M_12 => (z_nn x_12 fun a14 => ((((z_fi M_12 898 a14) = 0 → P_X11_use_56 a Post PX x1 0 M_12) ∧ (¬ (z_fi M_12 898 a14) = 0 → P_X11_use_51 a Post PX x1 M_12)))))))) PX
def P_X11_use_25 (a : Nat) (Post : Int32 → z_Mem → Prop) (PX : String → z_Mem → Prop)  (x1 : Int32) (M : z_Mem) : Prop := P_X11_use_30 a Post PX x1 1 M
set_option maxRecDepth 100000 in
def P_X11_use (a : Nat) (p1 : Int32) (M : z_Mem) (Post : Int32 → z_Mem → Prop) (PX : String → z_Mem → Prop) : Prop := P_X11_requireRange p1 0 2 M (fun M_17 => ((p1 = 1 → P_X11_use_25 a Post PX p1 M_17) ∧ (¬ p1 = 1 → z_nn (z_fr M_17 1411 a) fun a21 => (P_X1_routeOf a21 0 M_17 fun x_20 M_20 => (z_nn x_20 fun a22 => ((((z_fi M_20 898 a22) = 0 → P_X11_use_30 a Post PX p1 0 M_20) ∧ (¬ (z_fi M_20 898 a22) = 0 → P_X11_use_25 a Post PX p1 M_20)))))))) PX
set_option maxRecDepth 100000 in
set_option maxHeartbeats 4000000 in
theorem v_X11_use_56 {G : z_G} {M0 : z_Mem} {a : Nat} {Post : Int32 → z_Mem → Prop} {PX : String → z_Mem → Prop} (hl9 : G.1.stackTraces = false)   {x1 : Int32} {t0 : Int32} {M : z_Mem} (ha : z_ki M a = 12) (f_t0 : t0 = 0 ∨ t0 = 1) (hP : P_X11_use_56 a Post PX x1 t0 M) : z_V G Y_X11_use z_XT M0 (z_QX G M0 (z_PI Post) PX) M 56 [(0, z_O (some a)), (1, z_I x1)] [z_I t0] := by
  unfold P_X11_use_56 at hP
  refine z_wts (fun hT1 _ => ?_)
  refine z_xS (n := 1) (Y1 := Y_X11_requireState) (st := []) rfl (s_X11_requireState hl9 f_t0 hP) rfl ⟨z_dc_X11_requireState, ⟨(Nat.le_of_ble_eq_true rfl), (Nat.le_of_ble_eq_true rfl)⟩, (Nat.le_of_ble_eq_true rfl)⟩ rfl zw_765 zw_766 zw_1 zw_767 dX11_use_56 (fun _ _ h => h) (fun r_1 M_1 hP _ x1 => ?_)
  obtain ⟨rfl, hP⟩ := hP
  refine z_stk (st' := []) rfl ?_
  have ha := x1.k (k := 11) hT1 ha
  refine z_aload_n dX11_use_59 rfl 0 rfl ?_
  refine z_getr (c := 11) (k := 3) (g := 1411) (t := 2) z_cb11 (Nat.le_of_ble_eq_true rfl) (Nat.le_of_ble_eq_true rfl) rfl rfl zw_492 rfl ha dX11_use_60 (fun f2 => ?_)
  obtain ⟨a3, e3, hP⟩ := hP
  have k3 := f2 a3 e3
  refine z_geti (c := 1) (k := 15) (g := 143) z_cb1 (Nat.le_of_ble_eq_true rfl) (Nat.le_of_ble_eq_true rfl) rfl (Nat.le_of_ble_eq_true rfl) zw_445 e3 k3 dX11_use_63 ?_
  refine z_topi (fun x_5 y_5 => ?_)
  replace hP := hP x_5 y_5
  refine z_istore_n (lv' := [(2, z_I _), (0, z_O _), (1, z_I _)]) dX11_use_66 rfl (Nat.le_of_ble_eq_true rfl) rfl ?_
  refine z_aload_n dX11_use_67 rfl 1 rfl ?_
  refine z_pc (pc' := 68) rfl ?_
  refine z_getr (c := 11) (k := 3) (g := 1411) (t := 2) z_cb11 (Nat.le_of_ble_eq_true rfl) (Nat.le_of_ble_eq_true rfl) rfl rfl zw_492 rfl ha dX11_use_68 (fun f6 => ?_)
  refine z_iload_n dX11_use_71 rfl 2 rfl ?_
  obtain ⟨a7, e7, hP⟩ := hP
  have k7 := f6 a7 e7
  refine z_puti (c := 1) (k := 15) (g := 143) z_cb1 (Nat.le_of_ble_eq_true rfl) (Nat.le_of_ble_eq_true rfl) (Nat.le_of_ble_eq_true rfl) rfl rfl rfl zw_445 e7 k7 (Or.inl rfl) dX11_use_72 ?_
  refine z_nm (fun M_8 g_8 => ?_)
  replace hP := hP M_8 g_8
  have q_8 := z_k1 g_8
  have ha := z_kk q_8 ha
  refine z_iload_n dX11_use_75 rfl 0 rfl ?_
  exact z_toX (z_reti rfl dX11_use_76 hP)
set_option maxRecDepth 100000 in
set_option maxHeartbeats 4000000 in
theorem v_X11_use_51 {G : z_G} {M0 : z_Mem} {a : Nat} {Post : Int32 → z_Mem → Prop} {PX : String → z_Mem → Prop} (hl9 : G.1.stackTraces = false)   {x1 : Int32} {M : z_Mem} (ha : z_ki M a = 12) (hP : P_X11_use_51 a Post PX x1 M) : z_V G Y_X11_use z_XT M0 (z_QX G M0 (z_PI Post) PX) M 51 [(0, z_O (some a)), (1, z_I x1)] [] := by
  unfold P_X11_use_51 at hP
  refine z_iconst (v := 1) dX11_use_51 (by decide) ?_
  refine z_goto (tgt := 56) dX11_use_52 (by decide) ?_
  refine z_sub (lv' := [(0, z_O _), (1, z_I _)]) [0, 1] rfl ?_
  exact v_X11_use_56 hl9  ha (Or.inr rfl) hP
set_option maxRecDepth 100000 in
set_option maxHeartbeats 4000000 in
theorem v_X11_use_30 {G : z_G} {M0 : z_Mem} {a : Nat} {Post : Int32 → z_Mem → Prop} {PX : String → z_Mem → Prop} (hl9 : G.1.stackTraces = false)   {x1 : Int32} {t0 : Int32} {M : z_Mem} (ha : z_ki M a = 12) (f_t0 : t0 = 0 ∨ t0 = 1) (hP : P_X11_use_30 a Post PX x1 t0 M) : z_V G Y_X11_use z_XT M0 (z_QX G M0 (z_PI Post) PX) M 30 [(0, z_O (some a)), (1, z_I x1)] [z_I t0] := by
  unfold P_X11_use_30 at hP
  refine z_wts (fun hT9 _ => ?_)
  refine z_xS (n := 1) (Y1 := Y_X11_requireState) (st := []) rfl (s_X11_requireState hl9 f_t0 hP) rfl ⟨z_dc_X11_requireState, ⟨(Nat.le_of_ble_eq_true rfl), (Nat.le_of_ble_eq_true rfl)⟩, (Nat.le_of_ble_eq_true rfl)⟩ rfl zw_765 zw_766 zw_1 zw_767 dX11_use_30 (fun _ _ h => h) (fun r_9 M_9 hP _ x9 => ?_)
  obtain ⟨rfl, hP⟩ := hP
  refine z_stk (st' := []) rfl ?_
  have ha := x9.k (k := 11) hT9 ha
  refine z_iload_n dX11_use_33 rfl 1 rfl ?_
  refine z_if_eq (tgt := 51) dX11_use_34 (by decide) (fun h10 => ?_) (fun h10 => ?_)
  · replace hP := hP.1 h10
    refine z_sub (lv' := [(0, z_O _), (1, z_I _)]) [0, 1] rfl ?_
    exact v_X11_use_51 hl9  ha hP
  · replace hP := hP.2 h10
    refine z_aload_n dX11_use_37 rfl 0 rfl ?_
    refine z_getr (c := 11) (k := 3) (g := 1411) (t := 2) z_cb11 (Nat.le_of_ble_eq_true rfl) (Nat.le_of_ble_eq_true rfl) rfl rfl zw_492 rfl ha dX11_use_38 (fun f11 => ?_)
    refine z_iconst (v := 1) dX11_use_41 (by decide) ?_
    obtain ⟨a13, e13, hP⟩ := hP
    have k13 := f11 a13 e13
    refine z_wts (fun hT12 _ => ?_)
    refine z_cVo (c := 1) (n := 1) (Y1 := Y_X1_routeOf) (st := []) e13 k13 z_cb1 (Nat.le_of_ble_eq_true rfl) rfl (s_X1_routeOf k13 hP) rfl ⟨z_dc_X1_routeOf, ⟨(Nat.le_of_ble_eq_true rfl), (Nat.le_of_ble_eq_true rfl)⟩, (Nat.le_of_ble_eq_true rfl)⟩ rfl zw_817 zw_818 zw_819 zw_9 zw_820 dX11_use_42 (fun x_12 M_12 f12 hP _ x12 => ?_)
    have ha := x12.k (k := 11) hT12 ha
    refine z_pc (pc' := 45) rfl ?_
    obtain ⟨a14, e14, hP⟩ := hP
    have k14 := f12 a14 e14
    refine z_getb (c := 7) (k := 2) (g := 898) z_cb7 (Nat.le_of_ble_eq_true rfl) (Nat.le_of_ble_eq_true rfl) rfl rfl zw_356 e14 k14 dX11_use_45 (fun b15 => ?_)
    refine z_if_eq (tgt := 55) dX11_use_48 (by decide) (fun h16 => ?_) (fun h16 => ?_)
    · replace hP := hP.1 h16
      refine z_iconst (v := 0) dX11_use_55 (by decide) ?_
      refine z_sub (lv' := [(0, z_O _), (1, z_I _)]) [0, 1] rfl ?_
      exact v_X11_use_56 hl9  ha (Or.inl rfl) hP
    · replace hP := hP.2 h16
      refine z_sub (lv' := [(0, z_O _), (1, z_I _)]) [0, 1] rfl ?_
      exact v_X11_use_51 hl9  ha hP
set_option maxRecDepth 100000 in
set_option maxHeartbeats 4000000 in
theorem v_X11_use_25 {G : z_G} {M0 : z_Mem} {a : Nat} {Post : Int32 → z_Mem → Prop} {PX : String → z_Mem → Prop} (hl9 : G.1.stackTraces = false)   {x1 : Int32} {M : z_Mem} (ha : z_ki M a = 12) (hP : P_X11_use_25 a Post PX x1 M) : z_V G Y_X11_use z_XT M0 (z_QX G M0 (z_PI Post) PX) M 25 [(0, z_O (some a)), (1, z_I x1)] [] := by
  unfold P_X11_use_25 at hP
  refine z_iconst (v := 1) dX11_use_25 (by decide) ?_
  refine z_goto (tgt := 30) dX11_use_26 (by decide) ?_
  refine z_sub (lv' := [(0, z_O _), (1, z_I _)]) [0, 1] rfl ?_
  exact v_X11_use_30 hl9  ha (Or.inr rfl) hP
set_option maxRecDepth 100000 in
set_option maxHeartbeats 4000000 in
theorem s_X11_use {G : z_G} {M : z_Mem} {a : Nat} {p1 : Int32} {Post : Int32 → z_Mem → Prop} {PX : String → z_Mem → Prop} (hl9 : G.1.stackTraces = false) (ha : z_ki M a = 12) (hP : P_X11_use a p1 M Post PX) : z_Mx G Y_X11_use M [z_O (some a), z_I p1] (z_PI Post) PX := by
  refine z_ofX (by decide) (Nat.le_of_ble_eq_true rfl) ?_
  unfold P_X11_use at hP
  refine z_sub (lv' := [(0, z_O (some a)), (1, z_I p1)]) [0, 1] rfl ?_
  refine z_iload_n dX11_use_0 rfl 1 rfl ?_
  refine z_iconst (v := 0) dX11_use_1 (by decide) ?_
  refine z_iconst (v := 2) dX11_use_2 (by decide) ?_
  refine z_wts (fun hT17 _ => ?_)
  refine z_xS (n := 3) (Y1 := Y_X11_requireRange) (st := []) rfl (s_X11_requireRange hl9  hP) rfl ⟨z_dc_X11_requireRange, ⟨(Nat.le_of_ble_eq_true rfl), (Nat.le_of_ble_eq_true rfl)⟩, (Nat.le_of_ble_eq_true rfl)⟩ rfl zw_612 zw_613 zw_1 zw_614 dX11_use_3 (fun _ _ h => h) (fun r_17 M_17 hP _ x17 => ?_)
  obtain ⟨rfl, hP⟩ := hP
  refine z_stk (st' := []) rfl ?_
  have ha := x17.k (k := 11) hT17 ha
  refine z_iload_n dX11_use_6 rfl 1 rfl ?_
  refine z_iconst (v := 1) dX11_use_7 (by decide) ?_
  refine z_pc (pc' := 8) rfl ?_
  refine z_icmp_eq (tgt := 25) dX11_use_8 (by decide) (fun h18 => ?_) (fun h18 => ?_)
  · replace hP := hP.1 h18
    refine z_sub (lv' := [(0, z_O _), (1, z_I _)]) [0, 1] rfl ?_
    exact v_X11_use_25 hl9  ha hP
  · replace hP := hP.2 h18
    refine z_aload_n dX11_use_11 rfl 0 rfl ?_
    refine z_getr (c := 11) (k := 3) (g := 1411) (t := 2) z_cb11 (Nat.le_of_ble_eq_true rfl) (Nat.le_of_ble_eq_true rfl) rfl rfl zw_492 rfl ha dX11_use_12 (fun f19 => ?_)
    refine z_iconst (v := 0) dX11_use_15 (by decide) ?_
    obtain ⟨a21, e21, hP⟩ := hP
    have k21 := f19 a21 e21
    refine z_wts (fun hT20 _ => ?_)
    refine z_cVo (c := 1) (n := 1) (Y1 := Y_X1_routeOf) (st := []) e21 k21 z_cb1 (Nat.le_of_ble_eq_true rfl) rfl (s_X1_routeOf k21 hP) rfl ⟨z_dc_X1_routeOf, ⟨(Nat.le_of_ble_eq_true rfl), (Nat.le_of_ble_eq_true rfl)⟩, (Nat.le_of_ble_eq_true rfl)⟩ rfl zw_817 zw_818 zw_819 zw_9 zw_820 dX11_use_16 (fun x_20 M_20 f20 hP _ x20 => ?_)
    have ha := x20.k (k := 11) hT20 ha
    obtain ⟨a22, e22, hP⟩ := hP
    have k22 := f20 a22 e22
    refine z_getb (c := 7) (k := 2) (g := 898) z_cb7 (Nat.le_of_ble_eq_true rfl) (Nat.le_of_ble_eq_true rfl) rfl rfl zw_356 e22 k22 dX11_use_19 (fun b23 => ?_)
    refine z_if_eq (tgt := 29) dX11_use_22 (by decide) (fun h24 => ?_) (fun h24 => ?_)
    · replace hP := hP.1 h24
      refine z_iconst (v := 0) dX11_use_29 (by decide) ?_
      refine z_sub (lv' := [(0, z_O _), (1, z_I _)]) [0, 1] rfl ?_
      exact v_X11_use_30 hl9  ha (Or.inl rfl) hP
    · replace hP := hP.2 h24
      refine z_sub (lv' := [(0, z_O _), (1, z_I _)]) [0, 1] rfl ?_
      exact v_X11_use_25 hl9  ha hP
set_option maxRecDepth 100000 in
def P_X11_changeKey (a : Nat) (M : z_Mem) (Post : Int32 → z_Mem → Prop) (PX : String → z_Mem → Prop) : Prop := z_nn (z_fr M 1411 a) fun a3 => (P_X1_canChangeKey a3 M fun x_2 M_2 => (P_X11_requireState x_2 M_2 (fun M_4 => z_nn (z_fr M_4 1411 a) fun a6 => (∀ M_8 : z_Mem, M_8 = z_sfi M_4 142 a6 ((z_fi M_4 142 a6) + 1) → (z_nn (z_fr M_8 1411 a) fun a10 => (Post (z_fi M_8 142 a10) M_8)))) PX))
set_option maxRecDepth 100000 in
set_option maxHeartbeats 4000000 in
theorem s_X11_changeKey {G : z_G} {M : z_Mem} {a : Nat} {Post : Int32 → z_Mem → Prop} {PX : String → z_Mem → Prop} (hl9 : G.1.stackTraces = false) (ha : z_ki M a = 12) (hP : P_X11_changeKey a M Post PX) : z_Mx G Y_X11_changeKey M [z_O (some a)] (z_PI Post) PX := by
  refine z_ofX (by decide) (Nat.le_of_ble_eq_true rfl) ?_
  unfold P_X11_changeKey at hP
  refine z_sub (lv' := [(0, z_O (some a))]) [0] rfl ?_
  refine z_aload_n dX11_changeKey_0 rfl 0 rfl ?_
  refine z_getr (c := 11) (k := 3) (g := 1411) (t := 2) z_cb11 (Nat.le_of_ble_eq_true rfl) (Nat.le_of_ble_eq_true rfl) rfl rfl zw_492 rfl ha dX11_changeKey_1 (fun f1 => ?_)
  obtain ⟨a3, e3, hP⟩ := hP
  have k3 := f1 a3 e3
  refine z_wts (fun hT2 _ => ?_)
  refine z_cVb (c := 1) (n := 0) (Y1 := Y_X1_canChangeKey) (st := []) e3 k3 z_cb1 (Nat.le_of_ble_eq_true rfl) rfl (s_X1_canChangeKey k3 hP) rfl ⟨z_dc_X1_canChangeKey, ⟨(Nat.le_of_ble_eq_true rfl), (Nat.le_of_ble_eq_true rfl)⟩, (Nat.le_of_ble_eq_true rfl)⟩ rfl zw_845 zw_846 zw_847 zw_9 zw_848 dX11_changeKey_4 (fun x_2 M_2 b2 hP _ x2 => ?_)
  have ha := x2.k (k := 11) hT2 ha
  refine z_wts (fun hT4 _ => ?_)
  refine z_xS (n := 1) (Y1 := Y_X11_requireState) (st := []) rfl (s_X11_requireState hl9 b2 hP) rfl ⟨z_dc_X11_requireState, ⟨(Nat.le_of_ble_eq_true rfl), (Nat.le_of_ble_eq_true rfl)⟩, (Nat.le_of_ble_eq_true rfl)⟩ rfl zw_765 zw_766 zw_1 zw_767 dX11_changeKey_7 (fun _ _ h => h) (fun r_4 M_4 hP _ x4 => ?_)
  obtain ⟨rfl, hP⟩ := hP
  refine z_stk (st' := []) rfl ?_
  have ha := x4.k (k := 11) hT4 ha
  refine z_aload_n dX11_changeKey_10 rfl 0 rfl ?_
  refine z_getr (c := 11) (k := 3) (g := 1411) (t := 2) z_cb11 (Nat.le_of_ble_eq_true rfl) (Nat.le_of_ble_eq_true rfl) rfl rfl zw_492 rfl ha dX11_changeKey_11 (fun f5 => ?_)
  refine z_pc (pc' := 14) rfl ?_
  refine z_dup dX11_changeKey_14 rfl ?_
  obtain ⟨a6, e6, hP⟩ := hP
  have k6 := f5 a6 e6
  refine z_geti (c := 1) (k := 14) (g := 142) z_cb1 (Nat.le_of_ble_eq_true rfl) (Nat.le_of_ble_eq_true rfl) rfl (Nat.le_of_ble_eq_true rfl) zw_443 e6 k6 dX11_changeKey_15 ?_
  refine z_iconst (v := 1) dX11_changeKey_18 (by decide) ?_
  refine z_iadd dX11_changeKey_19 ?_
  refine z_puti (c := 1) (k := 14) (g := 142) z_cb1 (Nat.le_of_ble_eq_true rfl) (Nat.le_of_ble_eq_true rfl) (Nat.le_of_ble_eq_true rfl) rfl rfl rfl zw_443 e6 k6 (Or.inl rfl) dX11_changeKey_20 ?_
  refine z_nm (fun M_8 g_8 => ?_)
  replace hP := hP M_8 g_8
  have q_8 := z_k1 g_8
  have ha := z_kk q_8 ha
  refine z_aload_n dX11_changeKey_23 rfl 0 rfl ?_
  refine z_pc (pc' := 24) rfl ?_
  refine z_getr (c := 11) (k := 3) (g := 1411) (t := 2) z_cb11 (Nat.le_of_ble_eq_true rfl) (Nat.le_of_ble_eq_true rfl) rfl rfl zw_492 rfl ha dX11_changeKey_24 (fun f9 => ?_)
  obtain ⟨a10, e10, hP⟩ := hP
  have k10 := f9 a10 e10
  refine z_geti (c := 1) (k := 14) (g := 142) z_cb1 (Nat.le_of_ble_eq_true rfl) (Nat.le_of_ble_eq_true rfl) rfl (Nat.le_of_ble_eq_true rfl) zw_443 e10 k10 dX11_changeKey_27 ?_
  exact z_toX (z_reti rfl dX11_changeKey_30 hP)
set_option maxRecDepth 100000 in
def P_X11_close (a : Nat) (M : z_Mem) (Post : z_Mem → Prop) (PX : String → z_Mem → Prop) : Prop := z_nn (z_fr M 1411 a) fun a2 => ((((z_fi M 135 a2) = 2 → P_X11_requireState 1 M (fun M_9 => z_nn (z_fr M_9 1411 a) fun a12 => (P_X1_beginClosing a12 M_9 fun M_11 => (Post M_11))) PX) ∧ (¬ (z_fi M 135 a2) = 2 → P_X11_requireState 0 M (fun M_5 => z_nn (z_fr M_5 1411 a) fun a8 => (P_X1_beginClosing a8 M_5 fun M_7 => (Post M_7))) PX)))
set_option maxRecDepth 100000 in
set_option maxHeartbeats 4000000 in
theorem s_X11_close {G : z_G} {M : z_Mem} {a : Nat} {Post : z_Mem → Prop} {PX : String → z_Mem → Prop} (hl9 : G.1.stackTraces = false) (ha : z_ki M a = 12) (hP : P_X11_close a M Post PX) : z_Mx G Y_X11_close M [z_O (some a)] (z_PV Post) PX := by
  refine z_ofX (by decide) (Nat.le_of_ble_eq_true rfl) ?_
  unfold P_X11_close at hP
  refine z_sub (lv' := [(0, z_O (some a))]) [0] rfl ?_
  refine z_aload_n dX11_close_0 rfl 0 rfl ?_
  refine z_getr (c := 11) (k := 3) (g := 1411) (t := 2) z_cb11 (Nat.le_of_ble_eq_true rfl) (Nat.le_of_ble_eq_true rfl) rfl rfl zw_492 rfl ha dX11_close_1 (fun f1 => ?_)
  obtain ⟨a2, e2, hP⟩ := hP
  have k2 := f1 a2 e2
  refine z_geti (c := 1) (k := 7) (g := 135) z_cb1 (Nat.le_of_ble_eq_true rfl) (Nat.le_of_ble_eq_true rfl) rfl (Nat.le_of_ble_eq_true rfl) zw_434 e2 k2 dX11_close_4 ?_
  refine z_iconst (v := 2) dX11_close_7 (by decide) ?_
  refine z_icmp_ne (tgt := 15) dX11_close_8 (by decide) (fun h4 => ?_) (fun h4 => ?_)
  · replace hP := hP.2 h4
    refine z_iconst (v := 0) dX11_close_15 (by decide) ?_
    refine z_wts (fun hT5 _ => ?_)
    refine z_xS (n := 1) (Y1 := Y_X11_requireState) (st := []) rfl (s_X11_requireState hl9 (Or.inl rfl) hP) rfl ⟨z_dc_X11_requireState, ⟨(Nat.le_of_ble_eq_true rfl), (Nat.le_of_ble_eq_true rfl)⟩, (Nat.le_of_ble_eq_true rfl)⟩ rfl zw_765 zw_766 zw_1 zw_767 dX11_close_16 (fun _ _ h => h) (fun r_5 M_5 hP _ x5 => ?_)
    obtain ⟨rfl, hP⟩ := hP
    refine z_stk (st' := []) rfl ?_
    have ha := x5.k (k := 11) hT5 ha
    refine z_pc (pc' := 19) rfl ?_
    refine z_aload_n dX11_close_19 rfl 0 rfl ?_
    refine z_getr (c := 11) (k := 3) (g := 1411) (t := 2) z_cb11 (Nat.le_of_ble_eq_true rfl) (Nat.le_of_ble_eq_true rfl) rfl rfl zw_492 rfl ha dX11_close_20 (fun f6 => ?_)
    obtain ⟨a8, e8, hP⟩ := hP
    have k8 := f6 a8 e8
    refine z_wts (fun hT7 _ => ?_)
    refine z_cVv (c := 1) (n := 0) (Y1 := Y_X1_beginClosing) (st := []) e8 k8 z_cb1 (Nat.le_of_ble_eq_true rfl) rfl (s_X1_beginClosing k8 hP) rfl ⟨z_dc_X1_beginClosing, ⟨(Nat.le_of_ble_eq_true rfl), (Nat.le_of_ble_eq_true rfl)⟩, (Nat.le_of_ble_eq_true rfl)⟩ rfl zw_863 zw_864 zw_865 zw_9 zw_866 dX11_close_23 (fun M_7 hP _ x7 => ?_)
    have ha := x7.k (k := 11) hT7 ha
    exact z_toX (z_retv rfl dX11_close_26 hP)
  · replace hP := hP.1 h4
    refine z_iconst (v := 1) dX11_close_11 (by decide) ?_
    refine z_goto (tgt := 16) dX11_close_12 (by decide) ?_
    refine z_wts (fun hT9 _ => ?_)
    refine z_xS (n := 1) (Y1 := Y_X11_requireState) (st := []) rfl (s_X11_requireState hl9 (Or.inr rfl) hP) rfl ⟨z_dc_X11_requireState, ⟨(Nat.le_of_ble_eq_true rfl), (Nat.le_of_ble_eq_true rfl)⟩, (Nat.le_of_ble_eq_true rfl)⟩ rfl zw_765 zw_766 zw_1 zw_767 dX11_close_16 (fun _ _ h => h) (fun r_9 M_9 hP _ x9 => ?_)
    obtain ⟨rfl, hP⟩ := hP
    refine z_stk (st' := []) rfl ?_
    have ha := x9.k (k := 11) hT9 ha
    refine z_pc (pc' := 19) rfl ?_
    refine z_aload_n dX11_close_19 rfl 0 rfl ?_
    refine z_getr (c := 11) (k := 3) (g := 1411) (t := 2) z_cb11 (Nat.le_of_ble_eq_true rfl) (Nat.le_of_ble_eq_true rfl) rfl rfl zw_492 rfl ha dX11_close_20 (fun f10 => ?_)
    obtain ⟨a12, e12, hP⟩ := hP
    have k12 := f10 a12 e12
    refine z_wts (fun hT11 _ => ?_)
    refine z_cVv (c := 1) (n := 0) (Y1 := Y_X1_beginClosing) (st := []) e12 k12 z_cb1 (Nat.le_of_ble_eq_true rfl) rfl (s_X1_beginClosing k12 hP) rfl ⟨z_dc_X1_beginClosing, ⟨(Nat.le_of_ble_eq_true rfl), (Nat.le_of_ble_eq_true rfl)⟩, (Nat.le_of_ble_eq_true rfl)⟩ rfl zw_863 zw_864 zw_865 zw_9 zw_866 dX11_close_23 (fun M_11 hP _ x11 => ?_)
    have ha := x11.k (k := 11) hT11 ha
    exact z_toX (z_retv rfl dX11_close_26 hP)
set_option maxRecDepth 100000 in
def P_X11_tick_32 (a : Nat) (Post : Int32 → z_Mem → Prop) (PX : String → z_Mem → Prop)  : Nat → Int32 → Int32 → z_Mem → Prop
  | 0, _, _, _ => False
  | n + 1, x1, x2, M => ((x1 ≤ x2 → z_nn (z_fr M 1408 a) fun a3 => (Post (z_fi M 645 a3) M)) ∧ (¬ x1 ≤ x2 → z_nn (z_fr M 1408 a) fun a6 => (∀ M_8 : z_Mem, M_8 = z_sfi M 645 a6 ((z_fi M 645 a6) + 1) → (z_nn (z_fr M_8 1410 a) fun a11 => (P_X8_hearAll a11 M_8 fun M_10 => (z_nn (z_fr M_10 1411 a) fun a14 => (P_X1_hearAll a14 M_10 fun M_13 => (z_nn (z_fr M_13 1410 a) fun a17 => (P_X8_acknowledgeInTime a17 M_13 fun M_16 => (z_nn (z_fr M_16 1411 a) fun a20 => (P_X1_lookAfter a20 M_16 fun M_19 => (z_nn (z_fr M_19 1411 a) fun a23 => (P_X1_sendData a23 M_19 fun M_22 => (z_nn (z_fr M_22 1408 a) fun a26 => (P_X5_letLeave a26 M_22 fun M_25 => (∀ x_27 : Int32, x_27 = x2 + 1 → (P_X11_tick_32 a Post PX n x1 x_27 M_25)))))))))))))))))
def P_X11_tick_27 (a : Nat) (Post : Int32 → z_Mem → Prop) (PX : String → z_Mem → Prop)  (x1 : Int32) (t0 : Int32) (M : z_Mem) : Prop := P_X11_requireState t0 M (fun M_28 => (∃ n29 : Nat, P_X11_tick_32 a Post PX n29 x1 0 M_28)) PX
set_option maxRecDepth 100000 in
def P_X11_tick (a : Nat) (p1 : Int32) (M : z_Mem) (Post : Int32 → z_Mem → Prop) (PX : String → z_Mem → Prop) : Prop := P_X11_requireRange p1 1 50 M (fun M_30 => z_nn (z_fr M_30 1408 a) fun a32 => (((2000 < ((z_fi M_30 645 a32) + p1) → P_X11_tick_27 a Post PX p1 0 M_30) ∧ (¬ 2000 < ((z_fi M_30 645 a32) + p1) → P_X11_tick_27 a Post PX p1 1 M_30)))) PX
set_option maxRecDepth 100000 in
set_option maxHeartbeats 4000000 in
theorem v_X11_tick_32 {G : z_G} {M0 : z_Mem} {a : Nat} {Post : Int32 → z_Mem → Prop} {PX : String → z_Mem → Prop} (hl9 : G.1.stackTraces = false)   : ∀ (n : Nat) {x1 : Int32} {x2 : Int32} {M : z_Mem}, (z_ki M a = 12) → P_X11_tick_32 a Post PX n x1 x2 M → z_V G Y_X11_tick z_XT M0 (z_QX G M0 (z_PI Post) PX) M 32 [(0, z_O (some a)), (1, z_I x1), (2, z_I x2)] [] := by
  intro n
  induction n with
  | zero => intro x1 x2 M ha hP; exact False.elim hP
  | succ n ih =>
    intro x1 x2 M ha hP
    unfold P_X11_tick_32 at hP
    refine z_iload_n dX11_tick_32 rfl 2 rfl ?_
    refine z_iload_n dX11_tick_33 rfl 1 rfl ?_
    refine z_icmp_ge (tgt := 98) dX11_tick_34 (by decide) (fun h1 => ?_) (fun h1 => ?_)
    · replace hP := hP.1 h1
      refine z_aload_n dX11_tick_98 rfl 0 rfl ?_
      refine z_getr (c := 11) (k := 0) (g := 1408) (t := 6) z_cb11 (Nat.le_of_ble_eq_true rfl) (Nat.le_of_ble_eq_true rfl) rfl rfl zw_489 rfl ha dX11_tick_99 (fun f2 => ?_)
      obtain ⟨a3, e3, hP⟩ := hP
      have k3 := f2 a3 e3
      refine z_geti (c := 5) (k := 5) (g := 645) z_cb5 (Nat.le_of_ble_eq_true rfl) (Nat.le_of_ble_eq_true rfl) rfl (Nat.le_of_ble_eq_true rfl) zw_167 e3 k3 dX11_tick_102 ?_
      exact z_toX (z_reti rfl dX11_tick_105 hP)
    · replace hP := hP.2 h1
      refine z_aload_n dX11_tick_37 rfl 0 rfl ?_
      refine z_getr (c := 11) (k := 0) (g := 1408) (t := 6) z_cb11 (Nat.le_of_ble_eq_true rfl) (Nat.le_of_ble_eq_true rfl) rfl rfl zw_489 rfl ha dX11_tick_38 (fun f5 => ?_)
      refine z_dup dX11_tick_41 rfl ?_
      obtain ⟨a6, e6, hP⟩ := hP
      have k6 := f5 a6 e6
      refine z_geti (c := 5) (k := 5) (g := 645) z_cb5 (Nat.le_of_ble_eq_true rfl) (Nat.le_of_ble_eq_true rfl) rfl (Nat.le_of_ble_eq_true rfl) zw_167 e6 k6 dX11_tick_42 ?_
      refine z_pc (pc' := 45) rfl ?_
      refine z_iconst (v := 1) dX11_tick_45 (by decide) ?_
      refine z_iadd dX11_tick_46 ?_
      refine z_puti (c := 5) (k := 5) (g := 645) z_cb5 (Nat.le_of_ble_eq_true rfl) (Nat.le_of_ble_eq_true rfl) (Nat.le_of_ble_eq_true rfl) rfl rfl rfl zw_167 e6 k6 (Or.inl rfl) dX11_tick_47 ?_
      refine z_nm (fun M_8 g_8 => ?_)
      replace hP := hP M_8 g_8
      have q_8 := z_k1 g_8
      have ha := z_kk q_8 ha
      refine z_aload_n dX11_tick_50 rfl 0 rfl ?_
      refine z_getr (c := 11) (k := 2) (g := 1410) (t := 9) z_cb11 (Nat.le_of_ble_eq_true rfl) (Nat.le_of_ble_eq_true rfl) rfl rfl zw_491 rfl ha dX11_tick_51 (fun f9 => ?_)
      obtain ⟨a11, e11, hP⟩ := hP
      have k11 := f9 a11 e11
      refine z_wts (fun hT10 _ => ?_)
      refine z_cVv (c := 8) (n := 0) (Y1 := Y_X8_hearAll) (st := []) e11 k11 z_cb8 (Nat.le_of_ble_eq_true rfl) rfl (s_X8_hearAll k11 hP) rfl ⟨z_dc_X8_hearAll, ⟨(Nat.le_of_ble_eq_true rfl), (Nat.le_of_ble_eq_true rfl)⟩, (Nat.le_of_ble_eq_true rfl)⟩ rfl zw_874 zw_875 zw_876 zw_8 zw_877 dX11_tick_54 (fun M_10 hP _ x10 => ?_)
      have ha := x10.k (k := 11) hT10 ha
      refine z_pc (pc' := 57) rfl ?_
      refine z_aload_n dX11_tick_57 rfl 0 rfl ?_
      refine z_getr (c := 11) (k := 3) (g := 1411) (t := 2) z_cb11 (Nat.le_of_ble_eq_true rfl) (Nat.le_of_ble_eq_true rfl) rfl rfl zw_492 rfl ha dX11_tick_58 (fun f12 => ?_)
      obtain ⟨a14, e14, hP⟩ := hP
      have k14 := f12 a14 e14
      refine z_wts (fun hT13 _ => ?_)
      refine z_cVv (c := 1) (n := 0) (Y1 := Y_X1_hearAll) (st := []) e14 k14 z_cb1 (Nat.le_of_ble_eq_true rfl) rfl (s_X1_hearAll k14 hP) rfl ⟨z_dc_X1_hearAll, ⟨(Nat.le_of_ble_eq_true rfl), (Nat.le_of_ble_eq_true rfl)⟩, (Nat.le_of_ble_eq_true rfl)⟩ rfl zw_920 zw_921 zw_922 zw_9 zw_923 dX11_tick_61 (fun M_13 hP _ x13 => ?_)
      have ha := x13.k (k := 11) hT13 ha
      refine z_aload_n dX11_tick_64 rfl 0 rfl ?_
      refine z_getr (c := 11) (k := 2) (g := 1410) (t := 9) z_cb11 (Nat.le_of_ble_eq_true rfl) (Nat.le_of_ble_eq_true rfl) rfl rfl zw_491 rfl ha dX11_tick_65 (fun f15 => ?_)
      obtain ⟨a17, e17, hP⟩ := hP
      have k17 := f15 a17 e17
      refine z_wts (fun hT16 _ => ?_)
      refine z_cVv (c := 8) (n := 0) (Y1 := Y_X8_acknowledgeInTime) (st := []) e17 k17 z_cb8 (Nat.le_of_ble_eq_true rfl) rfl (s_X8_acknowledgeInTime k17 hP) rfl ⟨z_dc_X8_acknowledgeInTime, ⟨(Nat.le_of_ble_eq_true rfl), (Nat.le_of_ble_eq_true rfl)⟩, (Nat.le_of_ble_eq_true rfl)⟩ rfl zw_1032 zw_1033 zw_1034 zw_8 zw_1035 dX11_tick_68 (fun M_16 hP _ x16 => ?_)
      have ha := x16.k (k := 11) hT16 ha
      refine z_pc (pc' := 71) rfl ?_
      refine z_aload_n dX11_tick_71 rfl 0 rfl ?_
      refine z_getr (c := 11) (k := 3) (g := 1411) (t := 2) z_cb11 (Nat.le_of_ble_eq_true rfl) (Nat.le_of_ble_eq_true rfl) rfl rfl zw_492 rfl ha dX11_tick_72 (fun f18 => ?_)
      obtain ⟨a20, e20, hP⟩ := hP
      have k20 := f18 a20 e20
      refine z_wts (fun hT19 _ => ?_)
      refine z_cVv (c := 1) (n := 0) (Y1 := Y_X1_lookAfter) (st := []) e20 k20 z_cb1 (Nat.le_of_ble_eq_true rfl) rfl (s_X1_lookAfter k20 hP) rfl ⟨z_dc_X1_lookAfter, ⟨(Nat.le_of_ble_eq_true rfl), (Nat.le_of_ble_eq_true rfl)⟩, (Nat.le_of_ble_eq_true rfl)⟩ rfl zw_1036 zw_1037 zw_1038 zw_9 zw_1039 dX11_tick_75 (fun M_19 hP _ x19 => ?_)
      have ha := x19.k (k := 11) hT19 ha
      refine z_aload_n dX11_tick_78 rfl 0 rfl ?_
      refine z_getr (c := 11) (k := 3) (g := 1411) (t := 2) z_cb11 (Nat.le_of_ble_eq_true rfl) (Nat.le_of_ble_eq_true rfl) rfl rfl zw_492 rfl ha dX11_tick_79 (fun f21 => ?_)
      obtain ⟨a23, e23, hP⟩ := hP
      have k23 := f21 a23 e23
      refine z_wts (fun hT22 _ => ?_)
      refine z_cVv (c := 1) (n := 0) (Y1 := Y_X1_sendData) (st := []) e23 k23 z_cb1 (Nat.le_of_ble_eq_true rfl) rfl (s_X1_sendData k23 hP) rfl ⟨z_dc_X1_sendData, ⟨(Nat.le_of_ble_eq_true rfl), (Nat.le_of_ble_eq_true rfl)⟩, (Nat.le_of_ble_eq_true rfl)⟩ rfl zw_1133 zw_1134 zw_1135 zw_9 zw_1136 dX11_tick_82 (fun M_22 hP _ x22 => ?_)
      have ha := x22.k (k := 11) hT22 ha
      refine z_pc (pc' := 85) rfl ?_
      refine z_aload_n dX11_tick_85 rfl 0 rfl ?_
      refine z_getr (c := 11) (k := 0) (g := 1408) (t := 6) z_cb11 (Nat.le_of_ble_eq_true rfl) (Nat.le_of_ble_eq_true rfl) rfl rfl zw_489 rfl ha dX11_tick_86 (fun f24 => ?_)
      obtain ⟨a26, e26, hP⟩ := hP
      have k26 := f24 a26 e26
      refine z_wts (fun hT25 _ => ?_)
      refine z_cVv (c := 5) (n := 0) (Y1 := Y_X5_letLeave) (st := []) e26 k26 z_cb5 (Nat.le_of_ble_eq_true rfl) rfl (s_X5_letLeave k26 hP) rfl ⟨z_dc_X5_letLeave, ⟨(Nat.le_of_ble_eq_true rfl), (Nat.le_of_ble_eq_true rfl)⟩, (Nat.le_of_ble_eq_true rfl)⟩ rfl zw_1170 zw_1171 zw_1172 zw_2 zw_1173 dX11_tick_89 (fun M_25 hP _ x25 => ?_)
      have ha := x25.k (k := 11) hT25 ha
      refine z_iincN (j := 2) (m := 1) (lv' := fun v => [(2, z_I v), (0, z_O _), (1, z_I _)]) dX11_tick_92 rfl (by decide) (Nat.le_of_ble_eq_true rfl) (fun _ => rfl) (fun x_27 y_27 => ?_)
      replace hP := hP x_27 y_27
      refine z_goto (tgt := 32) dX11_tick_95 (by decide) ?_
      refine z_sub (lv' := [(0, z_O _), (1, z_I _), (2, z_I _)]) [1, 2, 0] rfl ?_
      exact ih ha hP
set_option maxRecDepth 100000 in
set_option maxHeartbeats 4000000 in
theorem v_X11_tick_27 {G : z_G} {M0 : z_Mem} {a : Nat} {Post : Int32 → z_Mem → Prop} {PX : String → z_Mem → Prop} (hl9 : G.1.stackTraces = false)   {x1 : Int32} {t0 : Int32} {M : z_Mem} (ha : z_ki M a = 12) (f_t0 : t0 = 0 ∨ t0 = 1) (hP : P_X11_tick_27 a Post PX x1 t0 M) : z_V G Y_X11_tick z_XT M0 (z_QX G M0 (z_PI Post) PX) M 27 [(0, z_O (some a)), (1, z_I x1)] [z_I t0] := by
  unfold P_X11_tick_27 at hP
  refine z_wts (fun hT28 _ => ?_)
  refine z_xS (n := 1) (Y1 := Y_X11_requireState) (st := []) rfl (s_X11_requireState hl9 f_t0 hP) rfl ⟨z_dc_X11_requireState, ⟨(Nat.le_of_ble_eq_true rfl), (Nat.le_of_ble_eq_true rfl)⟩, (Nat.le_of_ble_eq_true rfl)⟩ rfl zw_765 zw_766 zw_1 zw_767 dX11_tick_27 (fun _ _ h => h) (fun r_28 M_28 hP _ x28 => ?_)
  obtain ⟨rfl, hP⟩ := hP
  refine z_stk (st' := []) rfl ?_
  have ha := x28.k (k := 11) hT28 ha
  refine z_iconst (v := 0) dX11_tick_30 (by decide) ?_
  refine z_istore_n (lv' := [(2, z_I _), (0, z_O _), (1, z_I _)]) dX11_tick_31 rfl (Nat.le_of_ble_eq_true rfl) rfl ?_
  obtain ⟨n29, hP⟩ := hP
  refine z_sub (lv' := [(0, z_O _), (1, z_I _), (2, z_I _)]) [1, 2, 0] rfl ?_
  exact v_X11_tick_32 hl9  n29 ha hP
set_option maxRecDepth 100000 in
set_option maxHeartbeats 4000000 in
theorem s_X11_tick {G : z_G} {M : z_Mem} {a : Nat} {p1 : Int32} {Post : Int32 → z_Mem → Prop} {PX : String → z_Mem → Prop} (hl9 : G.1.stackTraces = false) (ha : z_ki M a = 12) (hP : P_X11_tick a p1 M Post PX) : z_Mx G Y_X11_tick M [z_O (some a), z_I p1] (z_PI Post) PX := by
  refine z_ofX (by decide) (Nat.le_of_ble_eq_true rfl) ?_
  unfold P_X11_tick at hP
  refine z_sub (lv' := [(0, z_O (some a)), (1, z_I p1)]) [0, 1] rfl ?_
  refine z_iload_n dX11_tick_0 rfl 1 rfl ?_
  refine z_iconst (v := 1) dX11_tick_1 (by decide) ?_
  refine z_bipush (v := 50) dX11_tick_2 (by decide) ?_
  refine z_wts (fun hT30 _ => ?_)
  refine z_xS (n := 3) (Y1 := Y_X11_requireRange) (st := []) rfl (s_X11_requireRange hl9  hP) rfl ⟨z_dc_X11_requireRange, ⟨(Nat.le_of_ble_eq_true rfl), (Nat.le_of_ble_eq_true rfl)⟩, (Nat.le_of_ble_eq_true rfl)⟩ rfl zw_612 zw_613 zw_1 zw_614 dX11_tick_4 (fun _ _ h => h) (fun r_30 M_30 hP _ x30 => ?_)
  obtain ⟨rfl, hP⟩ := hP
  refine z_stk (st' := []) rfl ?_
  have ha := x30.k (k := 11) hT30 ha
  refine z_aload_n dX11_tick_7 rfl 0 rfl ?_
  refine z_getr (c := 11) (k := 0) (g := 1408) (t := 6) z_cb11 (Nat.le_of_ble_eq_true rfl) (Nat.le_of_ble_eq_true rfl) rfl rfl zw_489 rfl ha dX11_tick_8 (fun f31 => ?_)
  refine z_pc (pc' := 11) rfl ?_
  obtain ⟨a32, e32, hP⟩ := hP
  have k32 := f31 a32 e32
  refine z_geti (c := 5) (k := 5) (g := 645) z_cb5 (Nat.le_of_ble_eq_true rfl) (Nat.le_of_ble_eq_true rfl) rfl (Nat.le_of_ble_eq_true rfl) zw_167 e32 k32 dX11_tick_11 ?_
  refine z_iload_n dX11_tick_14 rfl 1 rfl ?_
  refine z_iadd dX11_tick_15 ?_
  refine z_sipush (v := 2000) dX11_tick_16 (by decide) ?_
  refine z_icmp_gt (tgt := 26) dX11_tick_19 (by decide) (fun h34 => ?_) (fun h34 => ?_)
  · replace hP := hP.1 h34
    refine z_iconst (v := 0) dX11_tick_26 (by decide) ?_
    refine z_sub (lv' := [(0, z_O _), (1, z_I _)]) [0, 1] rfl ?_
    exact v_X11_tick_27 hl9  ha (Or.inl rfl) hP
  · replace hP := hP.2 h34
    refine z_iconst (v := 1) dX11_tick_22 (by decide) ?_
    refine z_goto (tgt := 27) dX11_tick_23 (by decide) ?_
    refine z_sub (lv' := [(0, z_O _), (1, z_I _)]) [0, 1] rfl ?_
    exact v_X11_tick_27 hl9  ha (Or.inr rfl) hP
set_option maxRecDepth 100000 in
def P_X11_state (a : Nat) (p1 : Int32) (M : z_Mem) (Post : Int32 → z_Mem → Prop) (PX : String → z_Mem → Prop) : Prop := P_X11_requireRange p1 0 4 M (fun M_1 => ((p1 = nI 0 → z_nn (z_fr M_1 1411 a) fun a4 => (Post (z_fi M_1 135 a4) M_1)) ∧ (p1 = nI 1 → z_nn (z_fr M_1 1410 a) fun a7 => (Post (z_fi M_1 1026 a7) M_1)) ∧ (p1 = nI 2 → z_nn (z_fr M_1 1411 a) fun a10 => (Post (z_fi M_1 142 a10) M_1)) ∧ (p1 = nI 3 → z_nn (z_fr M_1 1410 a) fun a13 => (Post (z_fi M_1 1030 a13) M_1)) ∧ (p1 < 0 ∨ nI 3 < p1 → z_nn (z_fr M_1 1411 a) fun a16 => (Post (z_fi M_1 143 a16) M_1)))) PX
set_option maxRecDepth 100000 in
set_option maxHeartbeats 4000000 in
theorem s_X11_state {G : z_G} {M : z_Mem} {a : Nat} {p1 : Int32} {Post : Int32 → z_Mem → Prop} {PX : String → z_Mem → Prop} (hl9 : G.1.stackTraces = false) (ha : z_ki M a = 12) (hP : P_X11_state a p1 M Post PX) : z_Mx G Y_X11_state M [z_O (some a), z_I p1] (z_PI Post) PX := by
  refine z_ofX (by decide) (Nat.le_of_ble_eq_true rfl) ?_
  unfold P_X11_state at hP
  refine z_sub (lv' := [(0, z_O (some a)), (1, z_I p1)]) [0, 1] rfl ?_
  refine z_iload_n dX11_state_0 rfl 1 rfl ?_
  refine z_iconst (v := 0) dX11_state_1 (by decide) ?_
  refine z_iconst (v := 4) dX11_state_2 (by decide) ?_
  refine z_wts (fun hT1 _ => ?_)
  refine z_xS (n := 3) (Y1 := Y_X11_requireRange) (st := []) rfl (s_X11_requireRange hl9  hP) rfl ⟨z_dc_X11_requireRange, ⟨(Nat.le_of_ble_eq_true rfl), (Nat.le_of_ble_eq_true rfl)⟩, (Nat.le_of_ble_eq_true rfl)⟩ rfl zw_612 zw_613 zw_1 zw_614 dX11_state_3 (fun _ _ h => h) (fun r_1 M_1 hP _ x1 => ?_)
  obtain ⟨rfl, hP⟩ := hP
  refine z_stk (st' := []) rfl ?_
  have ha := x1.k (k := 11) hT1 ha
  refine z_iload_n dX11_state_6 rfl 1 rfl ?_
  refine z_sw (tD := 68) 4 [36, 44, 52, 60] (by decide) (by decide) (by decide) dX11_state_7 (fun k hk tg htg h2 => ?_) (fun h2 => ?_)
  · rcases (show k = 0 ∨ k = 1 ∨ k = 2 ∨ k = 3 by omega) with rfl | rfl | rfl | rfl
    · cases htg
      replace hP := hP.1 h2
      refine z_aload_n dX11_state_36 rfl 0 rfl ?_
      refine z_pc (pc' := 37) rfl ?_
      refine z_getr (c := 11) (k := 3) (g := 1411) (t := 2) z_cb11 (Nat.le_of_ble_eq_true rfl) (Nat.le_of_ble_eq_true rfl) rfl rfl zw_492 rfl ha dX11_state_37 (fun f3 => ?_)
      obtain ⟨a4, e4, hP⟩ := hP
      have k4 := f3 a4 e4
      refine z_geti (c := 1) (k := 7) (g := 135) z_cb1 (Nat.le_of_ble_eq_true rfl) (Nat.le_of_ble_eq_true rfl) rfl (Nat.le_of_ble_eq_true rfl) zw_434 e4 k4 dX11_state_40 ?_
      exact z_toX (z_reti rfl dX11_state_43 hP)
    · cases htg
      replace hP := hP.2.1 h2
      refine z_aload_n dX11_state_44 rfl 0 rfl ?_
      refine z_pc (pc' := 45) rfl ?_
      refine z_getr (c := 11) (k := 2) (g := 1410) (t := 9) z_cb11 (Nat.le_of_ble_eq_true rfl) (Nat.le_of_ble_eq_true rfl) rfl rfl zw_491 rfl ha dX11_state_45 (fun f6 => ?_)
      obtain ⟨a7, e7, hP⟩ := hP
      have k7 := f6 a7 e7
      refine z_geti (c := 8) (k := 2) (g := 1026) z_cb8 (Nat.le_of_ble_eq_true rfl) (Nat.le_of_ble_eq_true rfl) rfl (Nat.le_of_ble_eq_true rfl) zw_241 e7 k7 dX11_state_48 ?_
      exact z_toX (z_reti rfl dX11_state_51 hP)
    · cases htg
      replace hP := hP.2.2.1 h2
      refine z_aload_n dX11_state_52 rfl 0 rfl ?_
      refine z_pc (pc' := 53) rfl ?_
      refine z_getr (c := 11) (k := 3) (g := 1411) (t := 2) z_cb11 (Nat.le_of_ble_eq_true rfl) (Nat.le_of_ble_eq_true rfl) rfl rfl zw_492 rfl ha dX11_state_53 (fun f9 => ?_)
      obtain ⟨a10, e10, hP⟩ := hP
      have k10 := f9 a10 e10
      refine z_geti (c := 1) (k := 14) (g := 142) z_cb1 (Nat.le_of_ble_eq_true rfl) (Nat.le_of_ble_eq_true rfl) rfl (Nat.le_of_ble_eq_true rfl) zw_443 e10 k10 dX11_state_56 ?_
      exact z_toX (z_reti rfl dX11_state_59 hP)
    · cases htg
      replace hP := hP.2.2.2.1 h2
      refine z_aload_n dX11_state_60 rfl 0 rfl ?_
      refine z_pc (pc' := 61) rfl ?_
      refine z_getr (c := 11) (k := 2) (g := 1410) (t := 9) z_cb11 (Nat.le_of_ble_eq_true rfl) (Nat.le_of_ble_eq_true rfl) rfl rfl zw_491 rfl ha dX11_state_61 (fun f12 => ?_)
      obtain ⟨a13, e13, hP⟩ := hP
      have k13 := f12 a13 e13
      refine z_geti (c := 8) (k := 6) (g := 1030) z_cb8 (Nat.le_of_ble_eq_true rfl) (Nat.le_of_ble_eq_true rfl) rfl (Nat.le_of_ble_eq_true rfl) zw_247 e13 k13 dX11_state_64 ?_
      exact z_toX (z_reti rfl dX11_state_67 hP)
  · replace hP := hP.2.2.2.2 h2
    refine z_aload_n dX11_state_68 rfl 0 rfl ?_
    refine z_pc (pc' := 69) rfl ?_
    refine z_getr (c := 11) (k := 3) (g := 1411) (t := 2) z_cb11 (Nat.le_of_ble_eq_true rfl) (Nat.le_of_ble_eq_true rfl) rfl rfl zw_492 rfl ha dX11_state_69 (fun f15 => ?_)
    obtain ⟨a16, e16, hP⟩ := hP
    have k16 := f15 a16 e16
    refine z_geti (c := 1) (k := 15) (g := 143) z_cb1 (Nat.le_of_ble_eq_true rfl) (Nat.le_of_ble_eq_true rfl) rfl (Nat.le_of_ble_eq_true rfl) zw_445 e16 k16 dX11_state_72 ?_
    exact z_toX (z_reti rfl dX11_state_75 hP)
set_option maxRecDepth 100000 in
def P_X11_path (a : Nat) (p1 : Int32) (p2 : Int32) (M : z_Mem) (Post : Int32 → z_Mem → Prop) (PX : String → z_Mem → Prop) : Prop := P_X11_requirePath p1 M (fun M_1 => P_X11_requireRange p2 0 8 M_1 (fun M_2 => z_nn (z_fr M_2 1411 a) fun a5 => (P_X1_routeOf a5 p1 M_2 fun x_4 M_4 => (((p2 = nI 0 → z_nn x_4 fun a7 => (z_nn (z_fr M_4 897 a7) fun a9 => (Post (z_fi M_4 257 a9) M_4))) ∧ (p2 = nI 1 → z_nn x_4 fun a11 => (z_nn (z_fr M_4 897 a11) fun a13 => (Post (z_fi M_4 258 a13) M_4))) ∧ (p2 = nI 2 → z_nn x_4 fun a15 => (Post (z_fi M_4 899 a15) M_4)) ∧ (p2 = nI 3 → z_nn x_4 fun a17 => (Post (z_fi M_4 900 a17) M_4)) ∧ (p2 = nI 4 → z_nn x_4 fun a19 => (Post (z_fi M_4 901 a19) M_4)) ∧ (p2 = nI 5 → z_nn x_4 fun a21 => (Post (z_fi M_4 902 a21) M_4)) ∧ (p2 = nI 6 → z_nn x_4 fun a23 => (Post (z_fi M_4 903 a23) M_4)) ∧ (p2 = nI 7 → z_nn x_4 fun a25 => (P_X11_asNumber (z_fi M_4 898 a25) M_4 fun x_27 M_27 => (Post x_27 M_27))) ∧ (p2 < 0 ∨ nI 7 < p2 → z_nn (z_fr M_4 1408 a) fun a30 => (P_X5_laneOf a30 p1 M_4 fun x_29 M_29 => (z_nn x_29 fun a31 => (Post (z_fi M_29 395 a31) M_29)))))))) PX) PX
set_option maxRecDepth 100000 in
set_option maxHeartbeats 4000000 in
theorem s_X11_path {G : z_G} {M : z_Mem} {a : Nat} {p1 : Int32} {p2 : Int32} {Post : Int32 → z_Mem → Prop} {PX : String → z_Mem → Prop} (hl9 : G.1.stackTraces = false) (ha : z_ki M a = 12) (hP : P_X11_path a p1 p2 M Post PX) : z_Mx G Y_X11_path M [z_O (some a), z_I p1, z_I p2] (z_PI Post) PX := by
  refine z_ofX (by decide) (Nat.le_of_ble_eq_true rfl) ?_
  unfold P_X11_path at hP
  refine z_sub (lv' := [(0, z_O (some a)), (1, z_I p1), (2, z_I p2)]) [0, 1, 2] rfl ?_
  refine z_iload_n dX11_path_0 rfl 1 rfl ?_
  refine z_wts (fun hT1 _ => ?_)
  refine z_xS (n := 1) (Y1 := Y_X11_requirePath) (st := []) rfl (s_X11_requirePath hl9  hP) rfl ⟨z_dc_X11_requirePath, ⟨(Nat.le_of_ble_eq_true rfl), (Nat.le_of_ble_eq_true rfl)⟩, (Nat.le_of_ble_eq_true rfl)⟩ rfl zw_541 zw_542 zw_1 zw_543 dX11_path_1 (fun _ _ h => h) (fun r_1 M_1 hP _ x1 => ?_)
  obtain ⟨rfl, hP⟩ := hP
  refine z_stk (st' := []) rfl ?_
  have ha := x1.k (k := 11) hT1 ha
  refine z_iload_n dX11_path_4 rfl 2 rfl ?_
  refine z_iconst (v := 0) dX11_path_5 (by decide) ?_
  refine z_bipush (v := 8) dX11_path_6 (by decide) ?_
  refine z_wts (fun hT2 _ => ?_)
  refine z_xS (n := 3) (Y1 := Y_X11_requireRange) (st := []) rfl (s_X11_requireRange hl9  hP) rfl ⟨z_dc_X11_requireRange, ⟨(Nat.le_of_ble_eq_true rfl), (Nat.le_of_ble_eq_true rfl)⟩, (Nat.le_of_ble_eq_true rfl)⟩ rfl zw_612 zw_613 zw_1 zw_614 dX11_path_8 (fun _ _ h => h) (fun r_2 M_2 hP _ x2 => ?_)
  obtain ⟨rfl, hP⟩ := hP
  refine z_stk (st' := []) rfl ?_
  have ha := x2.k (k := 11) hT2 ha
  refine z_pc (pc' := 11) rfl ?_
  refine z_aload_n dX11_path_11 rfl 0 rfl ?_
  refine z_getr (c := 11) (k := 3) (g := 1411) (t := 2) z_cb11 (Nat.le_of_ble_eq_true rfl) (Nat.le_of_ble_eq_true rfl) rfl rfl zw_492 rfl ha dX11_path_12 (fun f3 => ?_)
  refine z_iload_n dX11_path_15 rfl 1 rfl ?_
  obtain ⟨a5, e5, hP⟩ := hP
  have k5 := f3 a5 e5
  refine z_wts (fun hT4 _ => ?_)
  refine z_cVo (c := 1) (n := 1) (Y1 := Y_X1_routeOf) (st := []) e5 k5 z_cb1 (Nat.le_of_ble_eq_true rfl) rfl (s_X1_routeOf k5 hP) rfl ⟨z_dc_X1_routeOf, ⟨(Nat.le_of_ble_eq_true rfl), (Nat.le_of_ble_eq_true rfl)⟩, (Nat.le_of_ble_eq_true rfl)⟩ rfl zw_817 zw_818 zw_819 zw_9 zw_820 dX11_path_16 (fun x_4 M_4 f4 hP _ x4 => ?_)
  have ha := x4.k (k := 11) hT4 ha
  refine z_astore_n (lv' := [(3, z_O _), (0, z_O _), (1, z_I _), (2, z_I _)]) dX11_path_19 rfl (Nat.le_of_ble_eq_true rfl) rfl ?_
  refine z_iload_n dX11_path_20 rfl 3 rfl ?_
  refine z_pc (pc' := 21) rfl ?_
  refine z_sw (tD := 117) 8 [68, 76, 84, 89, 94, 99, 104, 109] (by decide) (by decide) (by decide) dX11_path_21 (fun k hk tg htg h6 => ?_) (fun h6 => ?_)
  · rcases (show k = 0 ∨ k = 1 ∨ k = 2 ∨ k = 3 ∨ k = 4 ∨ k = 5 ∨ k = 6 ∨ k = 7 by omega) with rfl | rfl | rfl | rfl | rfl | rfl | rfl | rfl
    · cases htg
      replace hP := hP.1 h6
      refine z_aload_n dX11_path_68 rfl 0 rfl ?_
      obtain ⟨a7, e7, hP⟩ := hP
      have k7 := f4 a7 e7
      refine z_getr (c := 7) (k := 1) (g := 897) (t := 3) z_cb7 (Nat.le_of_ble_eq_true rfl) (Nat.le_of_ble_eq_true rfl) rfl rfl zw_352 e7 k7 dX11_path_69 (fun f8 => ?_)
      obtain ⟨a9, e9, hP⟩ := hP
      have k9 := f8 a9 e9
      refine z_geti (c := 2) (k := 1) (g := 257) z_cb2 (Nat.le_of_ble_eq_true rfl) (Nat.le_of_ble_eq_true rfl) rfl (Nat.le_of_ble_eq_true rfl) zw_314 e9 k9 dX11_path_72 ?_
      exact z_toX (z_reti rfl dX11_path_75 hP)
    · cases htg
      replace hP := hP.2.1 h6
      refine z_aload_n dX11_path_76 rfl 0 rfl ?_
      obtain ⟨a11, e11, hP⟩ := hP
      have k11 := f4 a11 e11
      refine z_getr (c := 7) (k := 1) (g := 897) (t := 3) z_cb7 (Nat.le_of_ble_eq_true rfl) (Nat.le_of_ble_eq_true rfl) rfl rfl zw_352 e11 k11 dX11_path_77 (fun f12 => ?_)
      obtain ⟨a13, e13, hP⟩ := hP
      have k13 := f12 a13 e13
      refine z_geti (c := 2) (k := 2) (g := 258) z_cb2 (Nat.le_of_ble_eq_true rfl) (Nat.le_of_ble_eq_true rfl) rfl (Nat.le_of_ble_eq_true rfl) zw_316 e13 k13 dX11_path_80 ?_
      exact z_toX (z_reti rfl dX11_path_83 hP)
    · cases htg
      replace hP := hP.2.2.1 h6
      refine z_aload_n dX11_path_84 rfl 0 rfl ?_
      obtain ⟨a15, e15, hP⟩ := hP
      have k15 := f4 a15 e15
      refine z_geti (c := 7) (k := 3) (g := 899) z_cb7 (Nat.le_of_ble_eq_true rfl) (Nat.le_of_ble_eq_true rfl) rfl (Nat.le_of_ble_eq_true rfl) zw_359 e15 k15 dX11_path_85 ?_
      exact z_toX (z_reti rfl dX11_path_88 hP)
    · cases htg
      replace hP := hP.2.2.2.1 h6
      refine z_aload_n dX11_path_89 rfl 0 rfl ?_
      obtain ⟨a17, e17, hP⟩ := hP
      have k17 := f4 a17 e17
      refine z_geti (c := 7) (k := 4) (g := 900) z_cb7 (Nat.le_of_ble_eq_true rfl) (Nat.le_of_ble_eq_true rfl) rfl (Nat.le_of_ble_eq_true rfl) zw_361 e17 k17 dX11_path_90 ?_
      exact z_toX (z_reti rfl dX11_path_93 hP)
    · cases htg
      replace hP := hP.2.2.2.2.1 h6
      refine z_aload_n dX11_path_94 rfl 0 rfl ?_
      obtain ⟨a19, e19, hP⟩ := hP
      have k19 := f4 a19 e19
      refine z_geti (c := 7) (k := 5) (g := 901) z_cb7 (Nat.le_of_ble_eq_true rfl) (Nat.le_of_ble_eq_true rfl) rfl (Nat.le_of_ble_eq_true rfl) zw_363 e19 k19 dX11_path_95 ?_
      exact z_toX (z_reti rfl dX11_path_98 hP)
    · cases htg
      replace hP := hP.2.2.2.2.2.1 h6
      refine z_aload_n dX11_path_99 rfl 0 rfl ?_
      obtain ⟨a21, e21, hP⟩ := hP
      have k21 := f4 a21 e21
      refine z_geti (c := 7) (k := 6) (g := 902) z_cb7 (Nat.le_of_ble_eq_true rfl) (Nat.le_of_ble_eq_true rfl) rfl (Nat.le_of_ble_eq_true rfl) zw_366 e21 k21 dX11_path_100 ?_
      exact z_toX (z_reti rfl dX11_path_103 hP)
    · cases htg
      replace hP := hP.2.2.2.2.2.2.1 h6
      refine z_aload_n dX11_path_104 rfl 0 rfl ?_
      obtain ⟨a23, e23, hP⟩ := hP
      have k23 := f4 a23 e23
      refine z_geti (c := 7) (k := 7) (g := 903) z_cb7 (Nat.le_of_ble_eq_true rfl) (Nat.le_of_ble_eq_true rfl) rfl (Nat.le_of_ble_eq_true rfl) zw_368 e23 k23 dX11_path_105 ?_
      exact z_toX (z_reti rfl dX11_path_108 hP)
    · cases htg
      replace hP := hP.2.2.2.2.2.2.2.1 h6
      refine z_aload_n dX11_path_109 rfl 0 rfl ?_
      obtain ⟨a25, e25, hP⟩ := hP
      have k25 := f4 a25 e25
      refine z_getb (c := 7) (k := 2) (g := 898) z_cb7 (Nat.le_of_ble_eq_true rfl) (Nat.le_of_ble_eq_true rfl) rfl rfl zw_356 e25 k25 dX11_path_110 (fun b26 => ?_)
      refine z_wts (fun hT27 _ => ?_)
      refine z_cSi (n := 1) (Y1 := Y_X11_asNumber) (st := []) rfl (s_X11_asNumber b26 hP) rfl ⟨z_dc_X11_asNumber, ⟨(Nat.le_of_ble_eq_true rfl), (Nat.le_of_ble_eq_true rfl)⟩, (Nat.le_of_ble_eq_true rfl)⟩ rfl zw_1200 zw_1201 zw_1 zw_1202 dX11_path_113 (fun x_27 M_27 hP _ x27 => ?_)
      have ha := x27.k (k := 11) hT27 ha
      have k25 := x27.k (k := 7) hT27 k25
      exact z_toX (z_reti rfl dX11_path_116 hP)
  · replace hP := hP.2.2.2.2.2.2.2.2 h6
    refine z_aload_n dX11_path_117 rfl 1 rfl ?_
    refine z_getr (c := 11) (k := 0) (g := 1408) (t := 6) z_cb11 (Nat.le_of_ble_eq_true rfl) (Nat.le_of_ble_eq_true rfl) rfl rfl zw_489 rfl ha dX11_path_118 (fun f28 => ?_)
    refine z_iload_n dX11_path_121 rfl 2 rfl ?_
    obtain ⟨a30, e30, hP⟩ := hP
    have k30 := f28 a30 e30
    refine z_wts (fun hT29 _ => ?_)
    refine z_cVo (c := 5) (n := 1) (Y1 := Y_X5_laneOf) (st := []) e30 k30 z_cb5 (Nat.le_of_ble_eq_true rfl) rfl (s_X5_laneOf k30 hP) rfl ⟨z_dc_X5_laneOf, ⟨(Nat.le_of_ble_eq_true rfl), (Nat.le_of_ble_eq_true rfl)⟩, (Nat.le_of_ble_eq_true rfl)⟩ rfl zw_631 zw_632 zw_633 zw_2 zw_634 dX11_path_122 (fun x_29 M_29 f29 hP _ x29 => ?_)
    have ha := x29.k (k := 11) hT29 ha
    have f4 := x29.t (k := 7) hT29 f4
    obtain ⟨a31, e31, hP⟩ := hP
    have k31 := f29 a31 e31
    refine z_geti (c := 3) (k := 11) (g := 395) z_cb3 (Nat.le_of_ble_eq_true rfl) (Nat.le_of_ble_eq_true rfl) rfl (Nat.le_of_ble_eq_true rfl) zw_69 e31 k31 dX11_path_125 ?_
    exact z_toX (z_reti rfl dX11_path_128 hP)
set_option maxRecDepth 100000 in
def P_X11_stream (a : Nat) (p1 : Int32) (p2 : Int32) (M : z_Mem) (Post : Int32 → z_Mem → Prop) (PX : String → z_Mem → Prop) : Prop := P_X11_requireStream p1 M (fun M_1 => P_X11_requireRange p2 0 6 M_1 (fun M_2 => z_nn (z_fr M_2 1409 a) fun a4 => (vp_in p1 (z_ln M_2 a4) ∧ (((p2 = nI 0 → z_nn (z_ar M_2 a4 ((p1 : Int32).toNatClampNeg)) fun a7 => (Post (z_fi M_2 1152 a7) M_2)) ∧ (p2 = nI 1 → z_nn (z_ar M_2 a4 ((p1 : Int32).toNatClampNeg)) fun a9 => (Post (z_fi M_2 1153 a9) M_2)) ∧ (p2 = nI 2 → z_nn (z_ar M_2 a4 ((p1 : Int32).toNatClampNeg)) fun a11 => (Post (z_fi M_2 1154 a11) M_2)) ∧ (p2 = nI 3 → z_nn (z_ar M_2 a4 ((p1 : Int32).toNatClampNeg)) fun a13 => (Post (z_fi M_2 1155 a13) M_2)) ∧ (p2 = nI 4 → z_nn (z_ar M_2 a4 ((p1 : Int32).toNatClampNeg)) fun a15 => (Post (z_fi M_2 1156 a15) M_2)) ∧ (p2 = nI 5 → z_nn (z_ar M_2 a4 ((p1 : Int32).toNatClampNeg)) fun a17 => (Post (z_fi M_2 1157 a17) M_2)) ∧ (p2 < 0 ∨ nI 5 < p2 → z_nn (z_ar M_2 a4 ((p1 : Int32).toNatClampNeg)) fun a19 => (Post (z_fi M_2 1158 a19) M_2)))))) PX) PX
set_option maxRecDepth 100000 in
set_option maxHeartbeats 4000000 in
theorem s_X11_stream {G : z_G} {M : z_Mem} {a : Nat} {p1 : Int32} {p2 : Int32} {Post : Int32 → z_Mem → Prop} {PX : String → z_Mem → Prop} (hl9 : G.1.stackTraces = false) (ha : z_ki M a = 12) (hP : P_X11_stream a p1 p2 M Post PX) : z_Mx G Y_X11_stream M [z_O (some a), z_I p1, z_I p2] (z_PI Post) PX := by
  refine z_ofX (by decide) (Nat.le_of_ble_eq_true rfl) ?_
  unfold P_X11_stream at hP
  refine z_sub (lv' := [(0, z_O (some a)), (1, z_I p1), (2, z_I p2)]) [0, 1, 2] rfl ?_
  refine z_iload_n dX11_stream_0 rfl 1 rfl ?_
  refine z_wts (fun hT1 _ => ?_)
  refine z_xS (n := 1) (Y1 := Y_X11_requireStream) (st := []) rfl (s_X11_requireStream hl9  hP) rfl ⟨z_dc_X11_requireStream, ⟨(Nat.le_of_ble_eq_true rfl), (Nat.le_of_ble_eq_true rfl)⟩, (Nat.le_of_ble_eq_true rfl)⟩ rfl zw_683 zw_684 zw_1 zw_685 dX11_stream_1 (fun _ _ h => h) (fun r_1 M_1 hP _ x1 => ?_)
  obtain ⟨rfl, hP⟩ := hP
  refine z_stk (st' := []) rfl ?_
  have ha := x1.k (k := 11) hT1 ha
  refine z_iload_n dX11_stream_4 rfl 2 rfl ?_
  refine z_iconst (v := 0) dX11_stream_5 (by decide) ?_
  refine z_bipush (v := 6) dX11_stream_6 (by decide) ?_
  refine z_wts (fun hT2 _ => ?_)
  refine z_xS (n := 3) (Y1 := Y_X11_requireRange) (st := []) rfl (s_X11_requireRange hl9  hP) rfl ⟨z_dc_X11_requireRange, ⟨(Nat.le_of_ble_eq_true rfl), (Nat.le_of_ble_eq_true rfl)⟩, (Nat.le_of_ble_eq_true rfl)⟩ rfl zw_612 zw_613 zw_1 zw_614 dX11_stream_8 (fun _ _ h => h) (fun r_2 M_2 hP _ x2 => ?_)
  obtain ⟨rfl, hP⟩ := hP
  refine z_stk (st' := []) rfl ?_
  have ha := x2.k (k := 11) hT2 ha
  refine z_pc (pc' := 11) rfl ?_
  refine z_aload_n dX11_stream_11 rfl 0 rfl ?_
  refine z_getr (c := 11) (k := 1) (g := 1409) (t := 24) z_cb11 (Nat.le_of_ble_eq_true rfl) (Nat.le_of_ble_eq_true rfl) rfl rfl zw_490 rfl ha dX11_stream_12 (fun f3 => ?_)
  refine z_iload_n dX11_stream_15 rfl 1 rfl ?_
  obtain ⟨a4, e4, hP⟩ := hP
  have k4 := f3 a4 e4
  obtain ⟨i5, hP⟩ := hP
  refine z_aald (t := 24) e4 k4 (Nat.le_of_ble_eq_true rfl) (Nat.le_of_ble_eq_true rfl) i5 dX11_stream_16 (fun f5 => ?_)
  refine z_astore_n (lv' := [(3, z_O _), (0, z_O _), (1, z_I _), (2, z_I _)]) dX11_stream_17 rfl (Nat.le_of_ble_eq_true rfl) rfl ?_
  refine z_iload_n dX11_stream_18 rfl 3 rfl ?_
  refine z_pc (pc' := 19) rfl ?_
  refine z_sw (tD := 86) 6 [56, 61, 66, 71, 76, 81] (by decide) (by decide) (by decide) dX11_stream_19 (fun k hk tg htg h6 => ?_) (fun h6 => ?_)
  · rcases (show k = 0 ∨ k = 1 ∨ k = 2 ∨ k = 3 ∨ k = 4 ∨ k = 5 by omega) with rfl | rfl | rfl | rfl | rfl | rfl
    · cases htg
      replace hP := hP.1 h6
      refine z_aload_n dX11_stream_56 rfl 0 rfl ?_
      obtain ⟨a7, e7, hP⟩ := hP
      have k7 := f5 a7 e7
      refine z_geti (c := 9) (k := 0) (g := 1152) z_cb9 (Nat.le_of_ble_eq_true rfl) (Nat.le_of_ble_eq_true rfl) rfl (Nat.le_of_ble_eq_true rfl) zw_189 e7 k7 dX11_stream_57 ?_
      exact z_toX (z_reti rfl dX11_stream_60 hP)
    · cases htg
      replace hP := hP.2.1 h6
      refine z_aload_n dX11_stream_61 rfl 0 rfl ?_
      obtain ⟨a9, e9, hP⟩ := hP
      have k9 := f5 a9 e9
      refine z_geti (c := 9) (k := 1) (g := 1153) z_cb9 (Nat.le_of_ble_eq_true rfl) (Nat.le_of_ble_eq_true rfl) rfl (Nat.le_of_ble_eq_true rfl) zw_191 e9 k9 dX11_stream_62 ?_
      exact z_toX (z_reti rfl dX11_stream_65 hP)
    · cases htg
      replace hP := hP.2.2.1 h6
      refine z_aload_n dX11_stream_66 rfl 0 rfl ?_
      obtain ⟨a11, e11, hP⟩ := hP
      have k11 := f5 a11 e11
      refine z_geti (c := 9) (k := 2) (g := 1154) z_cb9 (Nat.le_of_ble_eq_true rfl) (Nat.le_of_ble_eq_true rfl) rfl (Nat.le_of_ble_eq_true rfl) zw_194 e11 k11 dX11_stream_67 ?_
      exact z_toX (z_reti rfl dX11_stream_70 hP)
    · cases htg
      replace hP := hP.2.2.2.1 h6
      refine z_aload_n dX11_stream_71 rfl 0 rfl ?_
      obtain ⟨a13, e13, hP⟩ := hP
      have k13 := f5 a13 e13
      refine z_geti (c := 9) (k := 3) (g := 1155) z_cb9 (Nat.le_of_ble_eq_true rfl) (Nat.le_of_ble_eq_true rfl) rfl (Nat.le_of_ble_eq_true rfl) zw_196 e13 k13 dX11_stream_72 ?_
      exact z_toX (z_reti rfl dX11_stream_75 hP)
    · cases htg
      replace hP := hP.2.2.2.2.1 h6
      refine z_aload_n dX11_stream_76 rfl 0 rfl ?_
      obtain ⟨a15, e15, hP⟩ := hP
      have k15 := f5 a15 e15
      refine z_geti (c := 9) (k := 4) (g := 1156) z_cb9 (Nat.le_of_ble_eq_true rfl) (Nat.le_of_ble_eq_true rfl) rfl (Nat.le_of_ble_eq_true rfl) zw_200 e15 k15 dX11_stream_77 ?_
      exact z_toX (z_reti rfl dX11_stream_80 hP)
    · cases htg
      replace hP := hP.2.2.2.2.2.1 h6
      refine z_aload_n dX11_stream_81 rfl 0 rfl ?_
      obtain ⟨a17, e17, hP⟩ := hP
      have k17 := f5 a17 e17
      refine z_geti (c := 9) (k := 5) (g := 1157) z_cb9 (Nat.le_of_ble_eq_true rfl) (Nat.le_of_ble_eq_true rfl) rfl (Nat.le_of_ble_eq_true rfl) zw_203 e17 k17 dX11_stream_82 ?_
      exact z_toX (z_reti rfl dX11_stream_85 hP)
  · replace hP := hP.2.2.2.2.2.2 h6
    refine z_aload_n dX11_stream_86 rfl 0 rfl ?_
    obtain ⟨a19, e19, hP⟩ := hP
    have k19 := f5 a19 e19
    refine z_geti (c := 9) (k := 6) (g := 1158) z_cb9 (Nat.le_of_ble_eq_true rfl) (Nat.le_of_ble_eq_true rfl) rfl (Nat.le_of_ble_eq_true rfl) zw_205 e19 k19 dX11_stream_87 ?_
    exact z_toX (z_reti rfl dX11_stream_90 hP)
set_option maxRecDepth 100000 in
def P_X11_requirePacket (a : Nat) (p1 : Int32) (M : z_Mem) (Post : Option Nat → z_Mem → Prop) (PX : String → z_Mem → Prop) : Prop := z_nn (z_fr M 1411 a) fun a3 => (P_X1_packetAt a3 p1 M fun x_2 M_2 => (((x_2 = none → (z_room M_2 6 ∧ (∀ k n, k ≤ 1 → n ≤ 6 → PX "java/lang/IndexOutOfBoundsException" (z_exc M_2 k n)))) ∧ (∀ a4 : Nat, x_2 = some a4 → Post x_2 M_2))))
set_option maxRecDepth 100000 in
set_option maxHeartbeats 4000000 in
theorem s_X11_requirePacket {G : z_G} {M : z_Mem} {a : Nat} {p1 : Int32} {Post : Option Nat → z_Mem → Prop} {PX : String → z_Mem → Prop} (hl9 : G.1.stackTraces = false) (ha : z_ki M a = 12) (hP : P_X11_requirePacket a p1 M Post PX) : z_Mx G Y_X11_requirePacket M [z_O (some a), z_I p1] (z_PO 7 Post) PX := by
  refine z_ofX (by decide) (Nat.le_of_ble_eq_true rfl) ?_
  unfold P_X11_requirePacket at hP
  refine z_sub (lv' := [(0, z_O (some a)), (1, z_I p1)]) [0, 1] rfl ?_
  refine z_aload_n dX11_requirePacket_0 rfl 0 rfl ?_
  refine z_getr (c := 11) (k := 3) (g := 1411) (t := 2) z_cb11 (Nat.le_of_ble_eq_true rfl) (Nat.le_of_ble_eq_true rfl) rfl rfl zw_492 rfl ha dX11_requirePacket_1 (fun f1 => ?_)
  refine z_iload_n dX11_requirePacket_4 rfl 1 rfl ?_
  obtain ⟨a3, e3, hP⟩ := hP
  have k3 := f1 a3 e3
  refine z_wts (fun hT2 _ => ?_)
  refine z_cVo (c := 1) (n := 1) (Y1 := Y_X1_packetAt) (st := []) e3 k3 z_cb1 (Nat.le_of_ble_eq_true rfl) rfl (s_X1_packetAt k3 hP) rfl ⟨z_dc_X1_packetAt, ⟨(Nat.le_of_ble_eq_true rfl), (Nat.le_of_ble_eq_true rfl)⟩, (Nat.le_of_ble_eq_true rfl)⟩ rfl zw_1221 zw_850 zw_851 zw_9 zw_852 dX11_requirePacket_5 (fun x_2 M_2 f2 hP _ x2 => ?_)
  have ha := x2.k (k := 11) hT2 ha
  refine z_astore_n (lv' := [(2, z_O _), (0, z_O _), (1, z_I _)]) dX11_requirePacket_8 rfl (Nat.le_of_ble_eq_true rfl) rfl ?_
  refine z_aload_n dX11_requirePacket_9 rfl 0 rfl ?_
  refine z_pc (pc' := 10) rfl ?_
  refine z_ifnonnull (tgt := 24) dX11_requirePacket_10 (by decide) (fun h4 => ?_) (fun a4 e4 => ?_)
  · replace hP := hP.1 h4
    exact z_throw hl9 (by decide) (List.mem_of_getElem? (i := 0) rfl) zw_544 zw_16 (fun A U H h => by obtain ⟨-, -, f, t0, t1, t2, t3, t4, -⟩ := h; exact ⟨_, t4⟩) za_300 zb_300 zd_300 dX11_requirePacket_13 dX11_requirePacket_16 dX11_requirePacket_17 dX11_requirePacket_20 dX11_requirePacket_23 (Nat.le_of_ble_eq_true rfl) (Nat.le_of_ble_eq_true rfl) hP.1 hP.2
  · replace hP := hP.2 a4 e4
    have k4 := f2 a4 e4
    refine z_aload_n dX11_requirePacket_24 rfl 0 rfl ?_
    exact z_toX (z_reto (k := 7) rfl (z_trn e4 k4) dX11_requirePacket_25 hP)
set_option maxRecDepth 100000 in
def P_X11_packet (a : Nat) (p1 : Int32) (p2 : Int32) (M : z_Mem) (Post : Int32 → z_Mem → Prop) (PX : String → z_Mem → Prop) : Prop := P_X11_requirePacket a p1 M (fun x_1 M_1 => P_X11_requireRange p2 0 10 M_1 (fun M_2 => ((p2 = nI 0 → z_nn x_1 fun a4 => (Post (z_fi M_2 769 a4) M_2)) ∧ (p2 = nI 1 → z_nn x_1 fun a6 => (Post (z_fi M_2 770 a6) M_2)) ∧ (p2 = nI 2 → z_nn x_1 fun a8 => (Post (z_fi M_2 771 a8) M_2)) ∧ (p2 = nI 3 → z_nn x_1 fun a10 => (Post (z_fi M_2 772 a10) M_2)) ∧ (p2 = nI 4 → z_nn x_1 fun a12 => (Post (z_fi M_2 773 a12) M_2)) ∧ (p2 = nI 5 → z_nn x_1 fun a14 => (Post (z_fi M_2 778 a14) M_2)) ∧ (p2 = nI 6 → z_nn x_1 fun a16 => (Post (z_fi M_2 779 a16) M_2)) ∧ (p2 = nI 7 → z_nn x_1 fun a18 => (Post (z_fi M_2 774 a18) M_2)) ∧ (p2 = nI 8 → z_nn x_1 fun a20 => (P_X11_asNumber (z_fi M_2 775 a20) M_2 fun x_22 M_22 => (Post x_22 M_22))) ∧ (p2 = nI 9 → z_nn x_1 fun a23 => (P_X11_asNumber (z_fi M_2 776 a23) M_2 fun x_25 M_25 => (Post x_25 M_25))) ∧ (p2 < 0 ∨ nI 9 < p2 → z_nn x_1 fun a26 => (P_X11_asNumber (z_fi M_2 777 a26) M_2 fun x_28 M_28 => (Post x_28 M_28))))) PX) PX
set_option maxRecDepth 100000 in
set_option maxHeartbeats 4000000 in
theorem s_X11_packet {G : z_G} {M : z_Mem} {a : Nat} {p1 : Int32} {p2 : Int32} {Post : Int32 → z_Mem → Prop} {PX : String → z_Mem → Prop} (hl9 : G.1.stackTraces = false) (ha : z_ki M a = 12) (hP : P_X11_packet a p1 p2 M Post PX) : z_Mx G Y_X11_packet M [z_O (some a), z_I p1, z_I p2] (z_PI Post) PX := by
  refine z_ofX (by decide) (Nat.le_of_ble_eq_true rfl) ?_
  unfold P_X11_packet at hP
  refine z_sub (lv' := [(0, z_O (some a)), (1, z_I p1), (2, z_I p2)]) [0, 1, 2] rfl ?_
  refine z_aload_n dX11_packet_0 rfl 0 rfl ?_
  refine z_iload_n dX11_packet_1 rfl 1 rfl ?_
  refine z_wts (fun hT1 _ => ?_)
  refine z_xV (c := 11) (n := 1) (Y1 := Y_X11_requirePacket) (st := []) rfl ha z_cb11 (Nat.le_of_ble_eq_true rfl) rfl (s_X11_requirePacket hl9 ha hP) rfl ⟨z_dc_X11_requirePacket, ⟨(Nat.le_of_ble_eq_true rfl), (Nat.le_of_ble_eq_true rfl)⟩, (Nat.le_of_ble_eq_true rfl)⟩ rfl zw_1217 zw_1219 zp_30 zw_1 zw_1220 dX11_packet_2 (fun _ _ h => h) (fun r_1 M_1 hP _ x1 => ?_)
  obtain ⟨x_1, rfl, f1, hP⟩ := hP
  refine z_stk (st' := [z_O _]) rfl ?_
  have ha := x1.k (k := 11) hT1 ha
  refine z_astore_n (lv' := [(3, z_O _), (0, z_O _), (1, z_I _), (2, z_I _)]) dX11_packet_5 rfl (Nat.le_of_ble_eq_true rfl) rfl ?_
  refine z_iload_n dX11_packet_6 rfl 3 rfl ?_
  refine z_iconst (v := 0) dX11_packet_7 (by decide) ?_
  refine z_pc (pc' := 8) rfl ?_
  refine z_bipush (v := 10) dX11_packet_8 (by decide) ?_
  refine z_wts (fun hT2 _ => ?_)
  refine z_xS (n := 3) (Y1 := Y_X11_requireRange) (st := []) rfl (s_X11_requireRange hl9  hP) rfl ⟨z_dc_X11_requireRange, ⟨(Nat.le_of_ble_eq_true rfl), (Nat.le_of_ble_eq_true rfl)⟩, (Nat.le_of_ble_eq_true rfl)⟩ rfl zw_612 zw_613 zw_1 zw_614 dX11_packet_10 (fun _ _ h => h) (fun r_2 M_2 hP _ x2 => ?_)
  obtain ⟨rfl, hP⟩ := hP
  refine z_stk (st' := []) rfl ?_
  have ha := x2.k (k := 11) hT2 ha
  have f1 := x2.t (k := 6) hT2 f1
  refine z_iload_n dX11_packet_13 rfl 3 rfl ?_
  refine z_sw (tD := 124) 10 [68, 73, 78, 83, 88, 93, 98, 103, 108, 116] (by decide) (by decide) (by decide) dX11_packet_14 (fun k hk tg htg h3 => ?_) (fun h3 => ?_)
  · rcases (show k = 0 ∨ k = 1 ∨ k = 2 ∨ k = 3 ∨ k = 4 ∨ k = 5 ∨ k = 6 ∨ k = 7 ∨ k = 8 ∨ k = 9 by omega) with rfl | rfl | rfl | rfl | rfl | rfl | rfl | rfl | rfl | rfl
    · cases htg
      replace hP := hP.1 h3
      refine z_aload_n dX11_packet_68 rfl 0 rfl ?_
      obtain ⟨a4, e4, hP⟩ := hP
      have k4 := f1 a4 e4
      refine z_geti (c := 6) (k := 1) (g := 769) z_cb6 (Nat.le_of_ble_eq_true rfl) (Nat.le_of_ble_eq_true rfl) rfl (Nat.le_of_ble_eq_true rfl) zw_1062 e4 k4 dX11_packet_69 ?_
      exact z_toX (z_reti rfl dX11_packet_72 hP)
    · cases htg
      replace hP := hP.2.1 h3
      refine z_aload_n dX11_packet_73 rfl 0 rfl ?_
      obtain ⟨a6, e6, hP⟩ := hP
      have k6 := f1 a6 e6
      refine z_geti (c := 6) (k := 2) (g := 770) z_cb6 (Nat.le_of_ble_eq_true rfl) (Nat.le_of_ble_eq_true rfl) rfl (Nat.le_of_ble_eq_true rfl) zw_1066 e6 k6 dX11_packet_74 ?_
      exact z_toX (z_reti rfl dX11_packet_77 hP)
    · cases htg
      replace hP := hP.2.2.1 h3
      refine z_aload_n dX11_packet_78 rfl 0 rfl ?_
      obtain ⟨a8, e8, hP⟩ := hP
      have k8 := f1 a8 e8
      refine z_geti (c := 6) (k := 3) (g := 771) z_cb6 (Nat.le_of_ble_eq_true rfl) (Nat.le_of_ble_eq_true rfl) rfl (Nat.le_of_ble_eq_true rfl) zw_1070 e8 k8 dX11_packet_79 ?_
      exact z_toX (z_reti rfl dX11_packet_82 hP)
    · cases htg
      replace hP := hP.2.2.2.1 h3
      refine z_aload_n dX11_packet_83 rfl 0 rfl ?_
      obtain ⟨a10, e10, hP⟩ := hP
      have k10 := f1 a10 e10
      refine z_geti (c := 6) (k := 4) (g := 772) z_cb6 (Nat.le_of_ble_eq_true rfl) (Nat.le_of_ble_eq_true rfl) rfl (Nat.le_of_ble_eq_true rfl) zw_1074 e10 k10 dX11_packet_84 ?_
      exact z_toX (z_reti rfl dX11_packet_87 hP)
    · cases htg
      replace hP := hP.2.2.2.2.1 h3
      refine z_aload_n dX11_packet_88 rfl 0 rfl ?_
      obtain ⟨a12, e12, hP⟩ := hP
      have k12 := f1 a12 e12
      refine z_geti (c := 6) (k := 5) (g := 773) z_cb6 (Nat.le_of_ble_eq_true rfl) (Nat.le_of_ble_eq_true rfl) rfl (Nat.le_of_ble_eq_true rfl) zw_1078 e12 k12 dX11_packet_89 ?_
      exact z_toX (z_reti rfl dX11_packet_92 hP)
    · cases htg
      replace hP := hP.2.2.2.2.2.1 h3
      refine z_aload_n dX11_packet_93 rfl 0 rfl ?_
      obtain ⟨a14, e14, hP⟩ := hP
      have k14 := f1 a14 e14
      refine z_geti (c := 6) (k := 10) (g := 778) z_cb6 (Nat.le_of_ble_eq_true rfl) (Nat.le_of_ble_eq_true rfl) rfl (Nat.le_of_ble_eq_true rfl) zw_1093 e14 k14 dX11_packet_94 ?_
      exact z_toX (z_reti rfl dX11_packet_97 hP)
    · cases htg
      replace hP := hP.2.2.2.2.2.2.1 h3
      refine z_aload_n dX11_packet_98 rfl 0 rfl ?_
      obtain ⟨a16, e16, hP⟩ := hP
      have k16 := f1 a16 e16
      refine z_geti (c := 6) (k := 11) (g := 779) z_cb6 (Nat.le_of_ble_eq_true rfl) (Nat.le_of_ble_eq_true rfl) rfl (Nat.le_of_ble_eq_true rfl) zw_1096 e16 k16 dX11_packet_99 ?_
      exact z_toX (z_reti rfl dX11_packet_102 hP)
    · cases htg
      replace hP := hP.2.2.2.2.2.2.2.1 h3
      refine z_aload_n dX11_packet_103 rfl 0 rfl ?_
      obtain ⟨a18, e18, hP⟩ := hP
      have k18 := f1 a18 e18
      refine z_geti (c := 6) (k := 6) (g := 774) z_cb6 (Nat.le_of_ble_eq_true rfl) (Nat.le_of_ble_eq_true rfl) rfl (Nat.le_of_ble_eq_true rfl) zw_1081 e18 k18 dX11_packet_104 ?_
      exact z_toX (z_reti rfl dX11_packet_107 hP)
    · cases htg
      replace hP := hP.2.2.2.2.2.2.2.2.1 h3
      refine z_aload_n dX11_packet_108 rfl 0 rfl ?_
      obtain ⟨a20, e20, hP⟩ := hP
      have k20 := f1 a20 e20
      refine z_getb (c := 6) (k := 7) (g := 775) z_cb6 (Nat.le_of_ble_eq_true rfl) (Nat.le_of_ble_eq_true rfl) rfl rfl zw_1083 e20 k20 dX11_packet_109 (fun b21 => ?_)
      refine z_wts (fun hT22 _ => ?_)
      refine z_cSi (n := 1) (Y1 := Y_X11_asNumber) (st := []) rfl (s_X11_asNumber b21 hP) rfl ⟨z_dc_X11_asNumber, ⟨(Nat.le_of_ble_eq_true rfl), (Nat.le_of_ble_eq_true rfl)⟩, (Nat.le_of_ble_eq_true rfl)⟩ rfl zw_1200 zw_1201 zw_1 zw_1202 dX11_packet_112 (fun x_22 M_22 hP _ x22 => ?_)
      have ha := x22.k (k := 11) hT22 ha
      have k20 := x22.k (k := 6) hT22 k20
      refine z_pc (pc' := 115) rfl ?_
      exact z_toX (z_reti rfl dX11_packet_115 hP)
    · cases htg
      replace hP := hP.2.2.2.2.2.2.2.2.2.1 h3
      refine z_aload_n dX11_packet_116 rfl 0 rfl ?_
      obtain ⟨a23, e23, hP⟩ := hP
      have k23 := f1 a23 e23
      refine z_getb (c := 6) (k := 8) (g := 776) z_cb6 (Nat.le_of_ble_eq_true rfl) (Nat.le_of_ble_eq_true rfl) rfl rfl zw_1087 e23 k23 dX11_packet_117 (fun b24 => ?_)
      refine z_wts (fun hT25 _ => ?_)
      refine z_cSi (n := 1) (Y1 := Y_X11_asNumber) (st := []) rfl (s_X11_asNumber b24 hP) rfl ⟨z_dc_X11_asNumber, ⟨(Nat.le_of_ble_eq_true rfl), (Nat.le_of_ble_eq_true rfl)⟩, (Nat.le_of_ble_eq_true rfl)⟩ rfl zw_1200 zw_1201 zw_1 zw_1202 dX11_packet_120 (fun x_25 M_25 hP _ x25 => ?_)
      have ha := x25.k (k := 11) hT25 ha
      have k23 := x25.k (k := 6) hT25 k23
      refine z_pc (pc' := 123) rfl ?_
      exact z_toX (z_reti rfl dX11_packet_123 hP)
  · replace hP := hP.2.2.2.2.2.2.2.2.2.2 h3
    refine z_aload_n dX11_packet_124 rfl 0 rfl ?_
    obtain ⟨a26, e26, hP⟩ := hP
    have k26 := f1 a26 e26
    refine z_getb (c := 6) (k := 9) (g := 777) z_cb6 (Nat.le_of_ble_eq_true rfl) (Nat.le_of_ble_eq_true rfl) rfl rfl zw_1090 e26 k26 dX11_packet_125 (fun b27 => ?_)
    refine z_wts (fun hT28 _ => ?_)
    refine z_cSi (n := 1) (Y1 := Y_X11_asNumber) (st := []) rfl (s_X11_asNumber b27 hP) rfl ⟨z_dc_X11_asNumber, ⟨(Nat.le_of_ble_eq_true rfl), (Nat.le_of_ble_eq_true rfl)⟩, (Nat.le_of_ble_eq_true rfl)⟩ rfl zw_1200 zw_1201 zw_1 zw_1202 dX11_packet_128 (fun x_28 M_28 hP _ x28 => ?_)
    have ha := x28.k (k := 11) hT28 ha
    have k26 := x28.k (k := 6) hT28 k26
    refine z_pc (pc' := 131) rfl ?_
    exact z_toX (z_reti rfl dX11_packet_131 hP)
set_option maxRecDepth 100000 in
def P_X11_count (a : Nat) (p1 : Int32) (M : z_Mem) (Post : Int32 → z_Mem → Prop) (PX : String → z_Mem → Prop) : Prop := P_X11_requireRange p1 0 5 M (fun M_1 => z_nn (z_fr M_1 1411 a) fun a4 => (P_X1_routeOf a4 0 M_1 fun x_3 M_3 => (z_nn (z_fr M_3 1411 a) fun a7 => (P_X1_routeOf a7 1 M_3 fun x_6 M_6 => (((p1 = nI 0 → z_nn x_3 fun a9 => (z_nn x_6 fun a11 => (Post ((z_fi M_6 911 a9) + (z_fi M_6 911 a11)) M_6))) ∧ (p1 = nI 1 → z_nn x_3 fun a13 => (z_nn x_6 fun a15 => (Post ((z_fi M_6 912 a13) + (z_fi M_6 912 a15)) M_6))) ∧ (p1 = nI 2 → z_nn x_3 fun a17 => (z_nn x_6 fun a19 => (Post ((z_fi M_6 913 a17) + (z_fi M_6 913 a19)) M_6))) ∧ (p1 = nI 3 → z_nn (z_fr M_6 1411 a) fun a22 => (Post (z_fi M_6 138 a22) M_6)) ∧ (p1 = nI 4 → z_nn (z_fr M_6 1410 a) fun a25 => (Post (z_fi M_6 1039 a25) M_6)) ∧ (p1 < 0 ∨ nI 4 < p1 → z_nn x_3 fun a27 => (z_nn (z_fr M_6 897 a27) fun a29 => (z_nn x_6 fun a31 => (z_nn (z_fr M_6 897 a31) fun a33 => (Post ((z_fi M_6 259 a29) + (z_fi M_6 259 a33)) M_6))))))))))) PX
set_option maxRecDepth 100000 in
set_option maxHeartbeats 4000000 in
theorem s_X11_count {G : z_G} {M : z_Mem} {a : Nat} {p1 : Int32} {Post : Int32 → z_Mem → Prop} {PX : String → z_Mem → Prop} (hl9 : G.1.stackTraces = false) (ha : z_ki M a = 12) (hP : P_X11_count a p1 M Post PX) : z_Mx G Y_X11_count M [z_O (some a), z_I p1] (z_PI Post) PX := by
  refine z_ofX (by decide) (Nat.le_of_ble_eq_true rfl) ?_
  unfold P_X11_count at hP
  refine z_sub (lv' := [(0, z_O (some a)), (1, z_I p1)]) [0, 1] rfl ?_
  refine z_iload_n dX11_count_0 rfl 1 rfl ?_
  refine z_iconst (v := 0) dX11_count_1 (by decide) ?_
  refine z_iconst (v := 5) dX11_count_2 (by decide) ?_
  refine z_wts (fun hT1 _ => ?_)
  refine z_xS (n := 3) (Y1 := Y_X11_requireRange) (st := []) rfl (s_X11_requireRange hl9  hP) rfl ⟨z_dc_X11_requireRange, ⟨(Nat.le_of_ble_eq_true rfl), (Nat.le_of_ble_eq_true rfl)⟩, (Nat.le_of_ble_eq_true rfl)⟩ rfl zw_612 zw_613 zw_1 zw_614 dX11_count_3 (fun _ _ h => h) (fun r_1 M_1 hP _ x1 => ?_)
  obtain ⟨rfl, hP⟩ := hP
  refine z_stk (st' := []) rfl ?_
  have ha := x1.k (k := 11) hT1 ha
  refine z_aload_n dX11_count_6 rfl 0 rfl ?_
  refine z_getr (c := 11) (k := 3) (g := 1411) (t := 2) z_cb11 (Nat.le_of_ble_eq_true rfl) (Nat.le_of_ble_eq_true rfl) rfl rfl zw_492 rfl ha dX11_count_7 (fun f2 => ?_)
  refine z_pc (pc' := 10) rfl ?_
  refine z_iconst (v := 0) dX11_count_10 (by decide) ?_
  obtain ⟨a4, e4, hP⟩ := hP
  have k4 := f2 a4 e4
  refine z_wts (fun hT3 _ => ?_)
  refine z_cVo (c := 1) (n := 1) (Y1 := Y_X1_routeOf) (st := []) e4 k4 z_cb1 (Nat.le_of_ble_eq_true rfl) rfl (s_X1_routeOf k4 hP) rfl ⟨z_dc_X1_routeOf, ⟨(Nat.le_of_ble_eq_true rfl), (Nat.le_of_ble_eq_true rfl)⟩, (Nat.le_of_ble_eq_true rfl)⟩ rfl zw_817 zw_818 zw_819 zw_9 zw_820 dX11_count_11 (fun x_3 M_3 f3 hP _ x3 => ?_)
  have ha := x3.k (k := 11) hT3 ha
  refine z_astore_n (lv' := [(2, z_O _), (0, z_O _), (1, z_I _)]) dX11_count_14 rfl (Nat.le_of_ble_eq_true rfl) rfl ?_
  refine z_aload_n dX11_count_15 rfl 1 rfl ?_
  refine z_getr (c := 11) (k := 3) (g := 1411) (t := 2) z_cb11 (Nat.le_of_ble_eq_true rfl) (Nat.le_of_ble_eq_true rfl) rfl rfl zw_492 rfl ha dX11_count_16 (fun f5 => ?_)
  refine z_iconst (v := 1) dX11_count_19 (by decide) ?_
  refine z_pc (pc' := 20) rfl ?_
  obtain ⟨a7, e7, hP⟩ := hP
  have k7 := f5 a7 e7
  refine z_wts (fun hT6 _ => ?_)
  refine z_cVo (c := 1) (n := 1) (Y1 := Y_X1_routeOf) (st := []) e7 k7 z_cb1 (Nat.le_of_ble_eq_true rfl) rfl (s_X1_routeOf k7 hP) rfl ⟨z_dc_X1_routeOf, ⟨(Nat.le_of_ble_eq_true rfl), (Nat.le_of_ble_eq_true rfl)⟩, (Nat.le_of_ble_eq_true rfl)⟩ rfl zw_817 zw_818 zw_819 zw_9 zw_820 dX11_count_20 (fun x_6 M_6 f6 hP _ x6 => ?_)
  have ha := x6.k (k := 11) hT6 ha
  have f3 := x6.t (k := 7) hT6 f3
  refine z_astore_n (lv' := [(3, z_O _), (2, z_O _), (0, z_O _), (1, z_I _)]) dX11_count_23 rfl (Nat.le_of_ble_eq_true rfl) rfl ?_
  refine z_iload_n dX11_count_24 rfl 3 rfl ?_
  refine z_sw (tD := 106) 5 [60, 70, 80, 90, 98] (by decide) (by decide) (by decide) dX11_count_25 (fun k hk tg htg h8 => ?_) (fun h8 => ?_)
  · rcases (show k = 0 ∨ k = 1 ∨ k = 2 ∨ k = 3 ∨ k = 4 by omega) with rfl | rfl | rfl | rfl | rfl
    · cases htg
      replace hP := hP.1 h8
      refine z_aload_n dX11_count_60 rfl 1 rfl ?_
      obtain ⟨a9, e9, hP⟩ := hP
      have k9 := f3 a9 e9
      refine z_geti (c := 7) (k := 15) (g := 911) z_cb7 (Nat.le_of_ble_eq_true rfl) (Nat.le_of_ble_eq_true rfl) rfl (Nat.le_of_ble_eq_true rfl) zw_381 e9 k9 dX11_count_61 ?_
      refine z_aload_n dX11_count_64 rfl 0 rfl ?_
      refine z_pc (pc' := 65) rfl ?_
      obtain ⟨a11, e11, hP⟩ := hP
      have k11 := f6 a11 e11
      refine z_geti (c := 7) (k := 15) (g := 911) z_cb7 (Nat.le_of_ble_eq_true rfl) (Nat.le_of_ble_eq_true rfl) rfl (Nat.le_of_ble_eq_true rfl) zw_381 e11 k11 dX11_count_65 ?_
      refine z_iadd dX11_count_68 ?_
      exact z_toX (z_reti rfl dX11_count_69 hP)
    · cases htg
      replace hP := hP.2.1 h8
      refine z_aload_n dX11_count_70 rfl 1 rfl ?_
      obtain ⟨a13, e13, hP⟩ := hP
      have k13 := f3 a13 e13
      refine z_geti (c := 7) (k := 16) (g := 912) z_cb7 (Nat.le_of_ble_eq_true rfl) (Nat.le_of_ble_eq_true rfl) rfl (Nat.le_of_ble_eq_true rfl) zw_383 e13 k13 dX11_count_71 ?_
      refine z_aload_n dX11_count_74 rfl 0 rfl ?_
      refine z_pc (pc' := 75) rfl ?_
      obtain ⟨a15, e15, hP⟩ := hP
      have k15 := f6 a15 e15
      refine z_geti (c := 7) (k := 16) (g := 912) z_cb7 (Nat.le_of_ble_eq_true rfl) (Nat.le_of_ble_eq_true rfl) rfl (Nat.le_of_ble_eq_true rfl) zw_383 e15 k15 dX11_count_75 ?_
      refine z_iadd dX11_count_78 ?_
      exact z_toX (z_reti rfl dX11_count_79 hP)
    · cases htg
      replace hP := hP.2.2.1 h8
      refine z_aload_n dX11_count_80 rfl 1 rfl ?_
      obtain ⟨a17, e17, hP⟩ := hP
      have k17 := f3 a17 e17
      refine z_geti (c := 7) (k := 17) (g := 913) z_cb7 (Nat.le_of_ble_eq_true rfl) (Nat.le_of_ble_eq_true rfl) rfl (Nat.le_of_ble_eq_true rfl) zw_385 e17 k17 dX11_count_81 ?_
      refine z_aload_n dX11_count_84 rfl 0 rfl ?_
      refine z_pc (pc' := 85) rfl ?_
      obtain ⟨a19, e19, hP⟩ := hP
      have k19 := f6 a19 e19
      refine z_geti (c := 7) (k := 17) (g := 913) z_cb7 (Nat.le_of_ble_eq_true rfl) (Nat.le_of_ble_eq_true rfl) rfl (Nat.le_of_ble_eq_true rfl) zw_385 e19 k19 dX11_count_85 ?_
      refine z_iadd dX11_count_88 ?_
      exact z_toX (z_reti rfl dX11_count_89 hP)
    · cases htg
      replace hP := hP.2.2.2.1 h8
      refine z_aload_n dX11_count_90 rfl 2 rfl ?_
      refine z_getr (c := 11) (k := 3) (g := 1411) (t := 2) z_cb11 (Nat.le_of_ble_eq_true rfl) (Nat.le_of_ble_eq_true rfl) rfl rfl zw_492 rfl ha dX11_count_91 (fun f21 => ?_)
      obtain ⟨a22, e22, hP⟩ := hP
      have k22 := f21 a22 e22
      refine z_geti (c := 1) (k := 10) (g := 138) z_cb1 (Nat.le_of_ble_eq_true rfl) (Nat.le_of_ble_eq_true rfl) rfl (Nat.le_of_ble_eq_true rfl) zw_438 e22 k22 dX11_count_94 ?_
      refine z_pc (pc' := 97) rfl ?_
      exact z_toX (z_reti rfl dX11_count_97 hP)
    · cases htg
      replace hP := hP.2.2.2.2.1 h8
      refine z_aload_n dX11_count_98 rfl 2 rfl ?_
      refine z_getr (c := 11) (k := 2) (g := 1410) (t := 9) z_cb11 (Nat.le_of_ble_eq_true rfl) (Nat.le_of_ble_eq_true rfl) rfl rfl zw_491 rfl ha dX11_count_99 (fun f24 => ?_)
      obtain ⟨a25, e25, hP⟩ := hP
      have k25 := f24 a25 e25
      refine z_geti (c := 8) (k := 15) (g := 1039) z_cb8 (Nat.le_of_ble_eq_true rfl) (Nat.le_of_ble_eq_true rfl) rfl (Nat.le_of_ble_eq_true rfl) zw_257 e25 k25 dX11_count_102 ?_
      refine z_pc (pc' := 105) rfl ?_
      exact z_toX (z_reti rfl dX11_count_105 hP)
  · replace hP := hP.2.2.2.2.2 h8
    refine z_aload_n dX11_count_106 rfl 1 rfl ?_
    obtain ⟨a27, e27, hP⟩ := hP
    have k27 := f3 a27 e27
    refine z_getr (c := 7) (k := 1) (g := 897) (t := 3) z_cb7 (Nat.le_of_ble_eq_true rfl) (Nat.le_of_ble_eq_true rfl) rfl rfl zw_352 e27 k27 dX11_count_107 (fun f28 => ?_)
    obtain ⟨a29, e29, hP⟩ := hP
    have k29 := f28 a29 e29
    refine z_geti (c := 2) (k := 3) (g := 259) z_cb2 (Nat.le_of_ble_eq_true rfl) (Nat.le_of_ble_eq_true rfl) rfl (Nat.le_of_ble_eq_true rfl) zw_318 e29 k29 dX11_count_110 ?_
    refine z_pc (pc' := 113) rfl ?_
    refine z_aload_n dX11_count_113 rfl 0 rfl ?_
    obtain ⟨a31, e31, hP⟩ := hP
    have k31 := f6 a31 e31
    refine z_getr (c := 7) (k := 1) (g := 897) (t := 3) z_cb7 (Nat.le_of_ble_eq_true rfl) (Nat.le_of_ble_eq_true rfl) rfl rfl zw_352 e31 k31 dX11_count_114 (fun f32 => ?_)
    obtain ⟨a33, e33, hP⟩ := hP
    have k33 := f32 a33 e33
    refine z_geti (c := 2) (k := 3) (g := 259) z_cb2 (Nat.le_of_ble_eq_true rfl) (Nat.le_of_ble_eq_true rfl) rfl (Nat.le_of_ble_eq_true rfl) zw_318 e33 k33 dX11_count_117 ?_
    refine z_iadd dX11_count_120 ?_
    exact z_toX (z_reti rfl dX11_count_121 hP)
def P_X11_inFlightAnew_54 (a : Nat) (Post : Int32 → z_Mem → Prop) (PX : String → z_Mem → Prop) (J8 : Int32 → Int32 → Int32 → z_Mem → Prop) (x1 : Int32) (x2 : Int32) (x3 : Int32) (M : z_Mem) : Prop := ∀ x_1 : Int32, x_1 = x3 + 1 → (J8 x1 x2 x_1 M)
set_option maxRecDepth 100000 in
def P_X11_inFlightAnew_8 (a : Nat) (Post : Int32 → z_Mem → Prop) (PX : String → z_Mem → Prop)  : Nat → Int32 → Int32 → Int32 → z_Mem → Prop
  | 0, _, _, _, _ => False
  | n + 1, x1, x2, x3, M => z_nn (z_fr M 1411 a) fun a3 => ((((z_fi M 133 a3) ≤ x3 → Post x2 M) ∧ (¬ (z_fi M 133 a3) ≤ x3 → z_nn (z_fr M 1411 a) fun a8 => (P_X1_packetAt a8 x3 M fun x_7 M_7 => (((x_7 = none → P_X11_inFlightAnew_54 a Post PX (fun q0 q1 q2 qM => P_X11_inFlightAnew_8 a Post PX n q0 q1 q2 qM) x1 x2 x3 M_7) ∧ (∀ a9 : Nat, x_7 = some a9 → (((z_fi M_7 769 a9) = x1 → (((z_fi M_7 778 a9) = 0 → ∀ x_14 : Int32, x_14 = x2 + 1 → (P_X11_inFlightAnew_54 a Post PX (fun q0 q1 q2 qM => P_X11_inFlightAnew_8 a Post PX n q0 q1 q2 qM) x1 x_14 x3 M_7)) ∧ (¬ (z_fi M_7 778 a9) = 0 → P_X11_inFlightAnew_54 a Post PX (fun q0 q1 q2 qM => P_X11_inFlightAnew_8 a Post PX n q0 q1 q2 qM) x1 x2 x3 M_7))) ∧ (¬ (z_fi M_7 769 a9) = x1 → P_X11_inFlightAnew_54 a Post PX (fun q0 q1 q2 qM => P_X11_inFlightAnew_8 a Post PX n q0 q1 q2 qM) x1 x2 x3 M_7)))))))))
set_option maxRecDepth 100000 in
def P_X11_inFlightAnew (a : Nat) (p1 : Int32) (M : z_Mem) (Post : Int32 → z_Mem → Prop) (PX : String → z_Mem → Prop) : Prop := P_X11_requirePath p1 M (fun M_15 => (∃ n16 : Nat, P_X11_inFlightAnew_8 a Post PX n16 p1 0 0 M_15)) PX
set_option maxRecDepth 100000 in
set_option maxHeartbeats 4000000 in
theorem v_X11_inFlightAnew_54 {G : z_G} {M0 : z_Mem} {a : Nat} {Post : Int32 → z_Mem → Prop} {PX : String → z_Mem → Prop} (hl9 : G.1.stackTraces = false) {J8 : Int32 → Int32 → Int32 → z_Mem → Prop} (hJ8 : ∀ (x1 : Int32) (x2 : Int32) (x3 : Int32) (M : z_Mem), (z_ki M a = 12) → J8 x1 x2 x3 M → z_V G Y_X11_inFlightAnew z_XT M0 (z_QX G M0 (z_PI Post) PX) M 8 [(0, z_O (some a)), (1, z_I x1), (2, z_I x2), (3, z_I x3)] []) {x1 : Int32} {x2 : Int32} {x3 : Int32} {M : z_Mem} (ha : z_ki M a = 12) (hP : P_X11_inFlightAnew_54 a Post PX J8 x1 x2 x3 M) : z_V G Y_X11_inFlightAnew z_XT M0 (z_QX G M0 (z_PI Post) PX) M 54 [(0, z_O (some a)), (1, z_I x1), (2, z_I x2), (3, z_I x3)] [] := by
  unfold P_X11_inFlightAnew_54 at hP
  refine z_iincN (j := 3) (m := 1) (lv' := fun v => [(3, z_I v), (0, z_O _), (1, z_I _), (2, z_I _)]) dX11_inFlightAnew_54 rfl (by decide) (Nat.le_of_ble_eq_true rfl) (fun _ => rfl) (fun x_1 y_1 => ?_)
  replace hP := hP x_1 y_1
  refine z_goto (tgt := 8) dX11_inFlightAnew_57 (by decide) ?_
  refine z_sub (lv' := [(0, z_O _), (1, z_I _), (2, z_I _), (3, z_I _)]) [1, 2, 3, 0] rfl ?_
  exact hJ8 _ _ _ _ ha hP
set_option maxRecDepth 100000 in
set_option maxHeartbeats 4000000 in
theorem v_X11_inFlightAnew_8 {G : z_G} {M0 : z_Mem} {a : Nat} {Post : Int32 → z_Mem → Prop} {PX : String → z_Mem → Prop} (hl9 : G.1.stackTraces = false)   : ∀ (n : Nat) {x1 : Int32} {x2 : Int32} {x3 : Int32} {M : z_Mem}, (z_ki M a = 12) → P_X11_inFlightAnew_8 a Post PX n x1 x2 x3 M → z_V G Y_X11_inFlightAnew z_XT M0 (z_QX G M0 (z_PI Post) PX) M 8 [(0, z_O (some a)), (1, z_I x1), (2, z_I x2), (3, z_I x3)] [] := by
  intro n
  induction n with
  | zero => intro x1 x2 x3 M ha hP; exact False.elim hP
  | succ n ih =>
    intro x1 x2 x3 M ha hP
    unfold P_X11_inFlightAnew_8 at hP
    refine z_iload_n dX11_inFlightAnew_8 rfl 3 rfl ?_
    refine z_aload_n dX11_inFlightAnew_9 rfl 0 rfl ?_
    refine z_getr (c := 11) (k := 3) (g := 1411) (t := 2) z_cb11 (Nat.le_of_ble_eq_true rfl) (Nat.le_of_ble_eq_true rfl) rfl rfl zw_492 rfl ha dX11_inFlightAnew_10 (fun f2 => ?_)
    obtain ⟨a3, e3, hP⟩ := hP
    have k3 := f2 a3 e3
    refine z_geti (c := 1) (k := 5) (g := 133) z_cb1 (Nat.le_of_ble_eq_true rfl) (Nat.le_of_ble_eq_true rfl) rfl (Nat.le_of_ble_eq_true rfl) zw_431 e3 k3 dX11_inFlightAnew_13 ?_
    refine z_icmp_ge (tgt := 60) dX11_inFlightAnew_16 (by decide) (fun h5 => ?_) (fun h5 => ?_)
    · replace hP := hP.1 h5
      refine z_iload_n dX11_inFlightAnew_60 rfl 2 rfl ?_
      exact z_toX (z_reti rfl dX11_inFlightAnew_61 hP)
    · replace hP := hP.2 h5
      refine z_aload_n dX11_inFlightAnew_19 rfl 0 rfl ?_
      refine z_getr (c := 11) (k := 3) (g := 1411) (t := 2) z_cb11 (Nat.le_of_ble_eq_true rfl) (Nat.le_of_ble_eq_true rfl) rfl rfl zw_492 rfl ha dX11_inFlightAnew_20 (fun f6 => ?_)
      refine z_pc (pc' := 23) rfl ?_
      refine z_iload_n dX11_inFlightAnew_23 rfl 3 rfl ?_
      obtain ⟨a8, e8, hP⟩ := hP
      have k8 := f6 a8 e8
      refine z_wts (fun hT7 _ => ?_)
      refine z_cVo (c := 1) (n := 1) (Y1 := Y_X1_packetAt) (st := []) e8 k8 z_cb1 (Nat.le_of_ble_eq_true rfl) rfl (s_X1_packetAt k8 hP) rfl ⟨z_dc_X1_packetAt, ⟨(Nat.le_of_ble_eq_true rfl), (Nat.le_of_ble_eq_true rfl)⟩, (Nat.le_of_ble_eq_true rfl)⟩ rfl zw_1221 zw_850 zw_851 zw_9 zw_852 dX11_inFlightAnew_24 (fun x_7 M_7 f7 hP _ x7 => ?_)
      have ha := x7.k (k := 11) hT7 ha
      refine z_astore (lv' := [(4, z_O _), (0, z_O _), (1, z_I _), (2, z_I _), (3, z_I _)]) dX11_inFlightAnew_27 (Nat.le_of_ble_eq_true rfl) rfl ?_
      refine z_aload dX11_inFlightAnew_29 0 rfl ?_
      refine z_ifnull (tgt := 54) dX11_inFlightAnew_31 (by decide) (fun h9 => ?_) (fun a9 e9 => ?_)
      · replace hP := hP.1 h9
        refine z_sub (lv' := [(0, z_O _), (1, z_I _), (2, z_I _), (3, z_I _)]) [1, 2, 3, 4] rfl ?_
        exact v_X11_inFlightAnew_54 hl9 (fun _ _ _ _ w0 hP => ih w0 hP) ha hP
      · replace hP := hP.2 a9 e9
        have k9 := f7 a9 e9
        refine z_aload dX11_inFlightAnew_34 0 rfl ?_
        refine z_geti (c := 6) (k := 1) (g := 769) z_cb6 (Nat.le_of_ble_eq_true rfl) (Nat.le_of_ble_eq_true rfl) rfl (Nat.le_of_ble_eq_true rfl) zw_1062 e9 k9 dX11_inFlightAnew_36 ?_
        refine z_pc (pc' := 39) rfl ?_
        refine z_iload_n dX11_inFlightAnew_39 rfl 2 rfl ?_
        refine z_icmp_ne (tgt := 54) dX11_inFlightAnew_40 (by decide) (fun h11 => ?_) (fun h11 => ?_)
        · replace hP := hP.2 h11
          refine z_sub (lv' := [(0, z_O _), (1, z_I _), (2, z_I _), (3, z_I _)]) [1, 2, 3, 4] rfl ?_
          exact v_X11_inFlightAnew_54 hl9 (fun _ _ _ _ w0 hP => ih w0 hP) ha hP
        · replace hP := hP.1 h11
          refine z_aload dX11_inFlightAnew_43 0 rfl ?_
          refine z_geti (c := 6) (k := 10) (g := 778) z_cb6 (Nat.le_of_ble_eq_true rfl) (Nat.le_of_ble_eq_true rfl) rfl (Nat.le_of_ble_eq_true rfl) zw_1093 e9 k9 dX11_inFlightAnew_45 ?_
          refine z_if_ne (tgt := 54) dX11_inFlightAnew_48 (by decide) (fun h13 => ?_) (fun h13 => ?_)
          · replace hP := hP.2 h13
            refine z_sub (lv' := [(0, z_O _), (1, z_I _), (2, z_I _), (3, z_I _)]) [1, 2, 3, 4] rfl ?_
            exact v_X11_inFlightAnew_54 hl9 (fun _ _ _ _ w0 hP => ih w0 hP) ha hP
          · replace hP := hP.1 h13
            refine z_iincN (j := 3) (m := 1) (lv' := fun v => [(2, z_I v), (4, z_O _), (0, z_O _), (1, z_I _), (3, z_I _)]) dX11_inFlightAnew_51 rfl (by decide) (Nat.le_of_ble_eq_true rfl) (fun _ => rfl) (fun x_14 y_14 => ?_)
            replace hP := hP x_14 y_14
            refine z_sub (lv' := [(0, z_O _), (1, z_I _), (2, z_I _), (3, z_I _)]) [2, 3, 0, 4] rfl ?_
            exact v_X11_inFlightAnew_54 hl9 (fun _ _ _ _ w0 hP => ih w0 hP) ha hP
set_option maxRecDepth 100000 in
set_option maxHeartbeats 4000000 in
theorem s_X11_inFlightAnew {G : z_G} {M : z_Mem} {a : Nat} {p1 : Int32} {Post : Int32 → z_Mem → Prop} {PX : String → z_Mem → Prop} (hl9 : G.1.stackTraces = false) (ha : z_ki M a = 12) (hP : P_X11_inFlightAnew a p1 M Post PX) : z_Mx G Y_X11_inFlightAnew M [z_O (some a), z_I p1] (z_PI Post) PX := by
  refine z_ofX (by decide) (Nat.le_of_ble_eq_true rfl) ?_
  unfold P_X11_inFlightAnew at hP
  refine z_sub (lv' := [(0, z_O (some a)), (1, z_I p1)]) [0, 1] rfl ?_
  refine z_iload_n dX11_inFlightAnew_0 rfl 1 rfl ?_
  refine z_wts (fun hT15 _ => ?_)
  refine z_xS (n := 1) (Y1 := Y_X11_requirePath) (st := []) rfl (s_X11_requirePath hl9  hP) rfl ⟨z_dc_X11_requirePath, ⟨(Nat.le_of_ble_eq_true rfl), (Nat.le_of_ble_eq_true rfl)⟩, (Nat.le_of_ble_eq_true rfl)⟩ rfl zw_541 zw_542 zw_1 zw_543 dX11_inFlightAnew_1 (fun _ _ h => h) (fun r_15 M_15 hP _ x15 => ?_)
  obtain ⟨rfl, hP⟩ := hP
  refine z_stk (st' := []) rfl ?_
  have ha := x15.k (k := 11) hT15 ha
  refine z_iconst (v := 0) dX11_inFlightAnew_4 (by decide) ?_
  refine z_istore_n (lv' := [(2, z_I _), (0, z_O _), (1, z_I _)]) dX11_inFlightAnew_5 rfl (Nat.le_of_ble_eq_true rfl) rfl ?_
  refine z_iconst (v := 0) dX11_inFlightAnew_6 (by decide) ?_
  refine z_istore_n (lv' := [(3, z_I _), (2, z_I _), (0, z_O _), (1, z_I _)]) dX11_inFlightAnew_7 rfl (Nat.le_of_ble_eq_true rfl) rfl ?_
  obtain ⟨n16, hP⟩ := hP
  refine z_sub (lv' := [(0, z_O _), (1, z_I _), (2, z_I _), (3, z_I _)]) [2, 3, 1, 0] rfl ?_
  exact v_X11_inFlightAnew_8 hl9  n16 ha hP
def P_X11_gotAnew_68 (a : Nat) (Post : Int32 → z_Mem → Prop) (PX : String → z_Mem → Prop) (J13 : Int32 → Int32 → z_Mem → Prop) (x1 : Int32) (x2 : Int32) (M : z_Mem) : Prop := ∀ x_1 : Int32, x_1 = x2 + 1 → (J13 x1 x_1 M)
set_option maxRecDepth 100000 in
def P_X11_gotAnew_13 (a : Nat) (Post : Int32 → z_Mem → Prop) (PX : String → z_Mem → Prop)  : Nat → Int32 → Int32 → z_Mem → Prop
  | 0, _, _, _ => False
  | n + 1, x1, x2, M => z_nn (z_fr M 1411 a) fun a3 => ((((z_fi M 133 a3) ≤ x2 → P_X11_lengthOfPrefix (z_fr M 1412 a) 0 M fun x_7 M_7 => (Post x_7 M_7)) ∧ (¬ (z_fi M 133 a3) ≤ x2 → z_nn (z_fr M 1411 a) fun a10 => (P_X1_packetAt a10 x2 M fun x_9 M_9 => (((x_9 = none → P_X11_gotAnew_68 a Post PX (fun q0 q1 qM => P_X11_gotAnew_13 a Post PX n q0 q1 qM) x1 x2 M_9) ∧ (∀ a11 : Nat, x_9 = some a11 → (((z_fi M_9 771 a11) = x1 → (((z_fi M_9 779 a11) = 1 → P_X11_markRow (z_fr M_9 1412 a) (z_fi M_9 772 a11) (z_fi M_9 773 a11) M_9 fun M_19 => (P_X11_gotAnew_68 a Post PX (fun q0 q1 qM => P_X11_gotAnew_13 a Post PX n q0 q1 qM) x1 x2 M_19)) ∧ (¬ (z_fi M_9 779 a11) = 1 → P_X11_gotAnew_68 a Post PX (fun q0 q1 qM => P_X11_gotAnew_13 a Post PX n q0 q1 qM) x1 x2 M_9))) ∧ (¬ (z_fi M_9 771 a11) = x1 → P_X11_gotAnew_68 a Post PX (fun q0 q1 qM => P_X11_gotAnew_13 a Post PX n q0 q1 qM) x1 x2 M_9)))))))))
set_option maxRecDepth 100000 in
def P_X11_gotAnew (a : Nat) (p1 : Int32) (M : z_Mem) (Post : Int32 → z_Mem → Prop) (PX : String → z_Mem → Prop) : Prop := P_X11_requireStream p1 M (fun M_20 => P_X11_clearRow (z_fr M_20 1412 a) M_20 fun M_22 => ((∃ n23 : Nat, P_X11_gotAnew_13 a Post PX n23 p1 0 M_22))) PX
set_option maxRecDepth 100000 in
set_option maxHeartbeats 4000000 in
theorem v_X11_gotAnew_68 {G : z_G} {M0 : z_Mem} {a : Nat} {Post : Int32 → z_Mem → Prop} {PX : String → z_Mem → Prop} (hl9 : G.1.stackTraces = false) {J13 : Int32 → Int32 → z_Mem → Prop} (hJ13 : ∀ (x1 : Int32) (x2 : Int32) (M : z_Mem), (z_ki M a = 12) → J13 x1 x2 M → z_V G Y_X11_gotAnew z_XT M0 (z_QX G M0 (z_PI Post) PX) M 13 [(0, z_O (some a)), (1, z_I x1), (2, z_I x2)] []) {x1 : Int32} {x2 : Int32} {M : z_Mem} (ha : z_ki M a = 12) (hP : P_X11_gotAnew_68 a Post PX J13 x1 x2 M) : z_V G Y_X11_gotAnew z_XT M0 (z_QX G M0 (z_PI Post) PX) M 68 [(0, z_O (some a)), (1, z_I x1), (2, z_I x2)] [] := by
  unfold P_X11_gotAnew_68 at hP
  refine z_iincN (j := 2) (m := 1) (lv' := fun v => [(2, z_I v), (0, z_O _), (1, z_I _)]) dX11_gotAnew_68 rfl (by decide) (Nat.le_of_ble_eq_true rfl) (fun _ => rfl) (fun x_1 y_1 => ?_)
  replace hP := hP x_1 y_1
  refine z_goto (tgt := 13) dX11_gotAnew_71 (by decide) ?_
  refine z_sub (lv' := [(0, z_O _), (1, z_I _), (2, z_I _)]) [1, 2, 0] rfl ?_
  exact hJ13 _ _ _ ha hP
set_option maxRecDepth 100000 in
set_option maxHeartbeats 4000000 in
theorem v_X11_gotAnew_13 {G : z_G} {M0 : z_Mem} {a : Nat} {Post : Int32 → z_Mem → Prop} {PX : String → z_Mem → Prop} (hl9 : G.1.stackTraces = false)   : ∀ (n : Nat) {x1 : Int32} {x2 : Int32} {M : z_Mem}, (z_ki M a = 12) → P_X11_gotAnew_13 a Post PX n x1 x2 M → z_V G Y_X11_gotAnew z_XT M0 (z_QX G M0 (z_PI Post) PX) M 13 [(0, z_O (some a)), (1, z_I x1), (2, z_I x2)] [] := by
  intro n
  induction n with
  | zero => intro x1 x2 M ha hP; exact False.elim hP
  | succ n ih =>
    intro x1 x2 M ha hP
    unfold P_X11_gotAnew_13 at hP
    refine z_iload_n dX11_gotAnew_13 rfl 2 rfl ?_
    refine z_aload_n dX11_gotAnew_14 rfl 0 rfl ?_
    refine z_getr (c := 11) (k := 3) (g := 1411) (t := 2) z_cb11 (Nat.le_of_ble_eq_true rfl) (Nat.le_of_ble_eq_true rfl) rfl rfl zw_492 rfl ha dX11_gotAnew_15 (fun f2 => ?_)
    obtain ⟨a3, e3, hP⟩ := hP
    have k3 := f2 a3 e3
    refine z_geti (c := 1) (k := 5) (g := 133) z_cb1 (Nat.le_of_ble_eq_true rfl) (Nat.le_of_ble_eq_true rfl) rfl (Nat.le_of_ble_eq_true rfl) zw_431 e3 k3 dX11_gotAnew_18 ?_
    refine z_icmp_ge (tgt := 74) dX11_gotAnew_21 (by decide) (fun h5 => ?_) (fun h5 => ?_)
    · replace hP := hP.1 h5
      refine z_aload_n dX11_gotAnew_74 rfl 0 rfl ?_
      refine z_getr (c := 11) (k := 4) (g := 1412) (t := 21) z_cb11 (Nat.le_of_ble_eq_true rfl) (Nat.le_of_ble_eq_true rfl) rfl rfl zw_493 rfl ha dX11_gotAnew_75 (fun f6 => ?_)
      refine z_pc (pc' := 78) rfl ?_
      refine z_iconst (v := 0) dX11_gotAnew_78 (by decide) ?_
      refine z_wts (fun hT7 _ => ?_)
      refine z_cSi (n := 2) (Y1 := Y_X11_lengthOfPrefix) (st := []) rfl (s_X11_lengthOfPrefix f6 hP) rfl ⟨z_dc_X11_lengthOfPrefix, ⟨(Nat.le_of_ble_eq_true rfl), (Nat.le_of_ble_eq_true rfl)⟩, (Nat.le_of_ble_eq_true rfl)⟩ rfl zw_1246 zw_918 zw_1 zw_919 dX11_gotAnew_79 (fun x_7 M_7 hP _ x7 => ?_)
      have ha := x7.k (k := 11) hT7 ha
      exact z_toX (z_reti rfl dX11_gotAnew_82 hP)
    · replace hP := hP.2 h5
      refine z_aload_n dX11_gotAnew_24 rfl 0 rfl ?_
      refine z_getr (c := 11) (k := 3) (g := 1411) (t := 2) z_cb11 (Nat.le_of_ble_eq_true rfl) (Nat.le_of_ble_eq_true rfl) rfl rfl zw_492 rfl ha dX11_gotAnew_25 (fun f8 => ?_)
      refine z_pc (pc' := 28) rfl ?_
      refine z_iload_n dX11_gotAnew_28 rfl 2 rfl ?_
      obtain ⟨a10, e10, hP⟩ := hP
      have k10 := f8 a10 e10
      refine z_wts (fun hT9 _ => ?_)
      refine z_cVo (c := 1) (n := 1) (Y1 := Y_X1_packetAt) (st := []) e10 k10 z_cb1 (Nat.le_of_ble_eq_true rfl) rfl (s_X1_packetAt k10 hP) rfl ⟨z_dc_X1_packetAt, ⟨(Nat.le_of_ble_eq_true rfl), (Nat.le_of_ble_eq_true rfl)⟩, (Nat.le_of_ble_eq_true rfl)⟩ rfl zw_1221 zw_850 zw_851 zw_9 zw_852 dX11_gotAnew_29 (fun x_9 M_9 f9 hP _ x9 => ?_)
      have ha := x9.k (k := 11) hT9 ha
      refine z_astore_n (lv' := [(3, z_O _), (0, z_O _), (1, z_I _), (2, z_I _)]) dX11_gotAnew_32 rfl (Nat.le_of_ble_eq_true rfl) rfl ?_
      refine z_aload_n dX11_gotAnew_33 rfl 0 rfl ?_
      refine z_ifnull (tgt := 68) dX11_gotAnew_34 (by decide) (fun h11 => ?_) (fun a11 e11 => ?_)
      · replace hP := hP.1 h11
        refine z_sub (lv' := [(0, z_O _), (1, z_I _), (2, z_I _)]) [1, 2, 3] rfl ?_
        exact v_X11_gotAnew_68 hl9 (fun _ _ _ w0 hP => ih w0 hP) ha hP
      · replace hP := hP.2 a11 e11
        have k11 := f9 a11 e11
        refine z_aload_n dX11_gotAnew_37 rfl 0 rfl ?_
        refine z_geti (c := 6) (k := 3) (g := 771) z_cb6 (Nat.le_of_ble_eq_true rfl) (Nat.le_of_ble_eq_true rfl) rfl (Nat.le_of_ble_eq_true rfl) zw_1070 e11 k11 dX11_gotAnew_38 ?_
        refine z_pc (pc' := 41) rfl ?_
        refine z_iload_n dX11_gotAnew_41 rfl 2 rfl ?_
        refine z_icmp_ne (tgt := 68) dX11_gotAnew_42 (by decide) (fun h13 => ?_) (fun h13 => ?_)
        · replace hP := hP.2 h13
          refine z_sub (lv' := [(0, z_O _), (1, z_I _), (2, z_I _)]) [1, 2, 3] rfl ?_
          exact v_X11_gotAnew_68 hl9 (fun _ _ _ w0 hP => ih w0 hP) ha hP
        · replace hP := hP.1 h13
          refine z_aload_n dX11_gotAnew_45 rfl 0 rfl ?_
          refine z_geti (c := 6) (k := 11) (g := 779) z_cb6 (Nat.le_of_ble_eq_true rfl) (Nat.le_of_ble_eq_true rfl) rfl (Nat.le_of_ble_eq_true rfl) zw_1096 e11 k11 dX11_gotAnew_46 ?_
          refine z_iconst (v := 1) dX11_gotAnew_49 (by decide) ?_
          refine z_icmp_ne (tgt := 68) dX11_gotAnew_50 (by decide) (fun h15 => ?_) (fun h15 => ?_)
          · replace hP := hP.2 h15
            refine z_sub (lv' := [(0, z_O _), (1, z_I _), (2, z_I _)]) [1, 2, 3] rfl ?_
            exact v_X11_gotAnew_68 hl9 (fun _ _ _ w0 hP => ih w0 hP) ha hP
          · replace hP := hP.1 h15
            refine z_aload_n dX11_gotAnew_53 rfl 1 rfl ?_
            refine z_getr (c := 11) (k := 4) (g := 1412) (t := 21) z_cb11 (Nat.le_of_ble_eq_true rfl) (Nat.le_of_ble_eq_true rfl) rfl rfl zw_493 rfl ha dX11_gotAnew_54 (fun f16 => ?_)
            refine z_pc (pc' := 57) rfl ?_
            refine z_aload_n dX11_gotAnew_57 rfl 0 rfl ?_
            refine z_geti (c := 6) (k := 4) (g := 772) z_cb6 (Nat.le_of_ble_eq_true rfl) (Nat.le_of_ble_eq_true rfl) rfl (Nat.le_of_ble_eq_true rfl) zw_1074 e11 k11 dX11_gotAnew_58 ?_
            refine z_aload_n dX11_gotAnew_61 rfl 0 rfl ?_
            refine z_geti (c := 6) (k := 5) (g := 773) z_cb6 (Nat.le_of_ble_eq_true rfl) (Nat.le_of_ble_eq_true rfl) rfl (Nat.le_of_ble_eq_true rfl) zw_1078 e11 k11 dX11_gotAnew_62 ?_
            refine z_wts (fun hT19 _ => ?_)
            refine z_cSv (n := 3) (Y1 := Y_X11_markRow) (st := []) rfl (s_X11_markRow f16 hP) rfl ⟨z_dc_X11_markRow, ⟨(Nat.le_of_ble_eq_true rfl), (Nat.le_of_ble_eq_true rfl)⟩, (Nat.le_of_ble_eq_true rfl)⟩ rfl zw_1245 zw_914 zw_1 zw_915 dX11_gotAnew_65 (fun M_19 hP _ x19 => ?_)
            have ha := x19.k (k := 11) hT19 ha
            have k11 := x19.k (k := 6) hT19 k11
            refine z_sub (lv' := [(0, z_O _), (1, z_I _), (2, z_I _)]) [1, 2, 3] rfl ?_
            exact v_X11_gotAnew_68 hl9 (fun _ _ _ w0 hP => ih w0 hP) ha hP
set_option maxRecDepth 100000 in
set_option maxHeartbeats 4000000 in
theorem s_X11_gotAnew {G : z_G} {M : z_Mem} {a : Nat} {p1 : Int32} {Post : Int32 → z_Mem → Prop} {PX : String → z_Mem → Prop} (hl9 : G.1.stackTraces = false) (ha : z_ki M a = 12) (hP : P_X11_gotAnew a p1 M Post PX) : z_Mx G Y_X11_gotAnew M [z_O (some a), z_I p1] (z_PI Post) PX := by
  refine z_ofX (by decide) (Nat.le_of_ble_eq_true rfl) ?_
  unfold P_X11_gotAnew at hP
  refine z_sub (lv' := [(0, z_O (some a)), (1, z_I p1)]) [0, 1] rfl ?_
  refine z_iload_n dX11_gotAnew_0 rfl 1 rfl ?_
  refine z_wts (fun hT20 _ => ?_)
  refine z_xS (n := 1) (Y1 := Y_X11_requireStream) (st := []) rfl (s_X11_requireStream hl9  hP) rfl ⟨z_dc_X11_requireStream, ⟨(Nat.le_of_ble_eq_true rfl), (Nat.le_of_ble_eq_true rfl)⟩, (Nat.le_of_ble_eq_true rfl)⟩ rfl zw_683 zw_684 zw_1 zw_685 dX11_gotAnew_1 (fun _ _ h => h) (fun r_20 M_20 hP _ x20 => ?_)
  obtain ⟨rfl, hP⟩ := hP
  refine z_stk (st' := []) rfl ?_
  have ha := x20.k (k := 11) hT20 ha
  refine z_aload_n dX11_gotAnew_4 rfl 0 rfl ?_
  refine z_getr (c := 11) (k := 4) (g := 1412) (t := 21) z_cb11 (Nat.le_of_ble_eq_true rfl) (Nat.le_of_ble_eq_true rfl) rfl rfl zw_493 rfl ha dX11_gotAnew_5 (fun f21 => ?_)
  refine z_wts (fun hT22 _ => ?_)
  refine z_cSv (n := 1) (Y1 := Y_X11_clearRow) (st := []) rfl (s_X11_clearRow f21 hP) rfl ⟨z_dc_X11_clearRow, ⟨(Nat.le_of_ble_eq_true rfl), (Nat.le_of_ble_eq_true rfl)⟩, (Nat.le_of_ble_eq_true rfl)⟩ rfl zw_1244 zw_518 zw_1 zw_519 dX11_gotAnew_8 (fun M_22 hP _ x22 => ?_)
  have ha := x22.k (k := 11) hT22 ha
  refine z_iconst (v := 0) dX11_gotAnew_11 (by decide) ?_
  refine z_pc (pc' := 12) rfl ?_
  refine z_istore_n (lv' := [(2, z_I _), (0, z_O _), (1, z_I _)]) dX11_gotAnew_12 rfl (Nat.le_of_ble_eq_true rfl) rfl ?_
  obtain ⟨n23, hP⟩ := hP
  refine z_sub (lv' := [(0, z_O _), (1, z_I _), (2, z_I _)]) [1, 2, 0] rfl ?_
  exact v_X11_gotAnew_13 hl9  n23 ha hP
