set_option maxRecDepth 100000 in
def P_X0_init (a : Nat) (M : z_Mem) (Post : z_Mem → Prop) : Prop := z_room M 4 ∧ (∀ M_2 : z_Mem, M_2 = z_nwa M 20 4 → (∀ M_3 : z_Mem, M_3 = z_sfr M_2 0 a (some (z_sz M)) → (z_room M_3 4 ∧ (∀ M_5 : z_Mem, M_5 = z_nwa M_3 20 4 → (∀ M_6 : z_Mem, M_6 = z_sfr M_5 1 a (some (z_sz M_3)) → (z_room M_6 4 ∧ (∀ M_8 : z_Mem, M_8 = z_nwa M_6 20 4 → (∀ M_9 : z_Mem, M_9 = z_sfr M_8 2 a (some (z_sz M_6)) → (Post M_9)))))))))
set_option maxRecDepth 100000 in
set_option maxHeartbeats 4000000 in
theorem s_X0_init {G : z_G} {M : z_Mem} {a : Nat} {Post : z_Mem → Prop} (ha : z_ki M a = 1) (hP : P_X0_init a M Post) : z_Mt G Y_X0_init M [z_O (some a)] (z_PV Post) := by
  refine z_ofV (by decide) (Nat.le_of_ble_eq_true rfl) ?_
  unfold P_X0_init at hP
  refine z_sub (lv' := [(0, z_O (some a))]) [0] rfl ?_
  refine z_aload_n dX0_init_0 rfl 0 rfl ?_
  refine z_objInit rfl zw_710 zw_28 zw_29 dX0_init_1 (Nat.le_of_ble_eq_true rfl) (Nat.le_of_ble_eq_true rfl) ?_
  refine z_aload_n dX0_init_4 rfl 0 rfl ?_
  refine z_iconst (v := 4) dX0_init_5 (by decide) ?_
  obtain ⟨r1, hP⟩ := hP
  refine z_wts (fun hT1 _ => ?_)
  refine z_newa (t := 20) (N := 4) (Or.inl ⟨rfl, rfl⟩) zw_231 rfl (Nat.le_of_ble_eq_true rfl) r1 dX0_init_6 (fun x1 k1 => ?_)
  refine z_nm (fun M_2 g_2 => ?_)
  replace hP := hP M_2 g_2
  have x1 := z_xe g_2 x1
  have k1 := z_xk g_2 k1
  have ha := x1.k (k := 0) hT1 ha
  refine z_putr (c := 0) (k := 0) (g := 0) (t := 20) z_cb0 (Nat.le_of_ble_eq_true rfl) (Nat.le_of_ble_eq_true rfl) rfl rfl rfl zw_711 rfl ha (z_trn rfl k1) (Or.inr ⟨rfl, rfl, rfl⟩) dX0_init_8 ?_
  refine z_nm (fun M_3 g_3 => ?_)
  replace hP := hP M_3 g_3
  have q_3 := z_k2 g_3
  have ha := z_kk q_3 ha
  refine z_pc (pc' := 11) rfl ?_
  refine z_aload_n dX0_init_11 rfl 0 rfl ?_
  refine z_iconst (v := 4) dX0_init_12 (by decide) ?_
  obtain ⟨r4, hP⟩ := hP
  refine z_wts (fun hT4 _ => ?_)
  refine z_newa (t := 20) (N := 4) (Or.inl ⟨rfl, rfl⟩) zw_231 rfl (Nat.le_of_ble_eq_true rfl) r4 dX0_init_13 (fun x4 k4 => ?_)
  refine z_nm (fun M_5 g_5 => ?_)
  replace hP := hP M_5 g_5
  have x4 := z_xe g_5 x4
  have k4 := z_xk g_5 k4
  have ha := x4.k (k := 0) hT4 ha
  refine z_putr (c := 0) (k := 1) (g := 1) (t := 20) z_cb0 (Nat.le_of_ble_eq_true rfl) (Nat.le_of_ble_eq_true rfl) rfl rfl rfl zw_713 rfl ha (z_trn rfl k4) (Or.inr ⟨rfl, rfl, rfl⟩) dX0_init_15 ?_
  refine z_nm (fun M_6 g_6 => ?_)
  replace hP := hP M_6 g_6
  have q_6 := z_k2 g_6
  have ha := z_kk q_6 ha
  refine z_aload_n dX0_init_18 rfl 0 rfl ?_
  refine z_iconst (v := 4) dX0_init_19 (by decide) ?_
  refine z_pc (pc' := 20) rfl ?_
  obtain ⟨r7, hP⟩ := hP
  refine z_wts (fun hT7 _ => ?_)
  refine z_newa (t := 20) (N := 4) (Or.inl ⟨rfl, rfl⟩) zw_231 rfl (Nat.le_of_ble_eq_true rfl) r7 dX0_init_20 (fun x7 k7 => ?_)
  refine z_nm (fun M_8 g_8 => ?_)
  replace hP := hP M_8 g_8
  have x7 := z_xe g_8 x7
  have k7 := z_xk g_8 k7
  have ha := x7.k (k := 0) hT7 ha
  refine z_putr (c := 0) (k := 2) (g := 2) (t := 20) z_cb0 (Nat.le_of_ble_eq_true rfl) (Nat.le_of_ble_eq_true rfl) rfl rfl rfl zw_715 rfl ha (z_trn rfl k7) (Or.inr ⟨rfl, rfl, rfl⟩) dX0_init_22 ?_
  refine z_nm (fun M_9 g_9 => ?_)
  replace hP := hP M_9 g_9
  have q_9 := z_k2 g_9
  have ha := z_kk q_9 ha
  exact z_retv rfl dX0_init_25 hP
set_option maxRecDepth 100000 in
def P_X0_addRange (a : Nat) (p1 : Int32) (p2 : Int32) (M : z_Mem) (Post : z_Mem → Prop) : Prop := ((4 ≤ (z_fi M 3 a) → Post M) ∧ (¬ 4 ≤ (z_fi M 3 a) → z_nn (z_fr M 0 a) fun a5 => (vp_in (z_fi M 3 a) (z_ln M a5) ∧ (∀ M_7 : z_Mem, M_7 = z_sai M a5 (((z_fi M 3 a) : Int32).toNatClampNeg) p1 → (z_nn (z_fr M_7 1 a) fun a10 => (vp_in (z_fi M_7 3 a) (z_ln M_7 a10) ∧ (∀ M_12 : z_Mem, M_12 = z_sai M_7 a10 (((z_fi M_7 3 a) : Int32).toNatClampNeg) p2 → (∀ M_14 : z_Mem, M_14 = z_sfi M_12 3 a ((z_fi M_12 3 a) + 1) → (Post M_14)))))))))
set_option maxRecDepth 100000 in
set_option maxHeartbeats 4000000 in
theorem s_X0_addRange {G : z_G} {M : z_Mem} {a : Nat} {p1 : Int32} {p2 : Int32} {Post : z_Mem → Prop} (ha : z_ki M a = 1) (hP : P_X0_addRange a p1 p2 M Post) : z_Mt G Y_X0_addRange M [z_O (some a), z_I p1, z_I p2] (z_PV Post) := by
  refine z_ofV (by decide) (Nat.le_of_ble_eq_true rfl) ?_
  unfold P_X0_addRange at hP
  refine z_sub (lv' := [(0, z_O (some a)), (1, z_I p1), (2, z_I p2)]) [0, 1, 2] rfl ?_
  refine z_aload_n dX0_addRange_0 rfl 0 rfl ?_
  refine z_geti (c := 0) (k := 3) (g := 3) z_cb0 (Nat.le_of_ble_eq_true rfl) (Nat.le_of_ble_eq_true rfl) rfl (Nat.le_of_ble_eq_true rfl) zw_718 rfl ha dX0_addRange_1 ?_
  refine z_iconst (v := 4) dX0_addRange_4 (by decide) ?_
  refine z_icmp_ge (tgt := 38) dX0_addRange_5 (by decide) (fun h2 => ?_) (fun h2 => ?_)
  · replace hP := hP.1 h2
    exact z_retv rfl dX0_addRange_38 hP
  · replace hP := hP.2 h2
    refine z_aload_n dX0_addRange_8 rfl 0 rfl ?_
    refine z_getr (c := 0) (k := 0) (g := 0) (t := 20) z_cb0 (Nat.le_of_ble_eq_true rfl) (Nat.le_of_ble_eq_true rfl) rfl rfl zw_711 rfl ha dX0_addRange_9 (fun f3 => ?_)
    refine z_aload_n dX0_addRange_12 rfl 0 rfl ?_
    refine z_pc (pc' := 13) rfl ?_
    refine z_geti (c := 0) (k := 3) (g := 3) z_cb0 (Nat.le_of_ble_eq_true rfl) (Nat.le_of_ble_eq_true rfl) rfl (Nat.le_of_ble_eq_true rfl) zw_718 rfl ha dX0_addRange_13 ?_
    refine z_iload_n dX0_addRange_16 rfl 1 rfl ?_
    obtain ⟨a5, e5, hP⟩ := hP
    have k5 := f3 a5 e5
    obtain ⟨i6, hP⟩ := hP
    refine z_iast e5 k5 i6 dX0_addRange_17 ?_
    refine z_nm (fun M_7 g_7 => ?_)
    replace hP := hP M_7 g_7
    have q_7 := z_k3 g_7
    have ha := z_kk q_7 ha
    refine z_aload_n dX0_addRange_18 rfl 0 rfl ?_
    refine z_getr (c := 0) (k := 1) (g := 1) (t := 20) z_cb0 (Nat.le_of_ble_eq_true rfl) (Nat.le_of_ble_eq_true rfl) rfl rfl zw_713 rfl ha dX0_addRange_19 (fun f8 => ?_)
    refine z_aload_n dX0_addRange_22 rfl 0 rfl ?_
    refine z_pc (pc' := 23) rfl ?_
    refine z_geti (c := 0) (k := 3) (g := 3) z_cb0 (Nat.le_of_ble_eq_true rfl) (Nat.le_of_ble_eq_true rfl) rfl (Nat.le_of_ble_eq_true rfl) zw_718 rfl ha dX0_addRange_23 ?_
    refine z_iload_n dX0_addRange_26 rfl 2 rfl ?_
    obtain ⟨a10, e10, hP⟩ := hP
    have k10 := f8 a10 e10
    obtain ⟨i11, hP⟩ := hP
    refine z_iast e10 k10 i11 dX0_addRange_27 ?_
    refine z_nm (fun M_12 g_12 => ?_)
    replace hP := hP M_12 g_12
    have q_12 := z_k3 g_12
    have ha := z_kk q_12 ha
    refine z_aload_n dX0_addRange_28 rfl 0 rfl ?_
    refine z_dup dX0_addRange_29 rfl ?_
    refine z_geti (c := 0) (k := 3) (g := 3) z_cb0 (Nat.le_of_ble_eq_true rfl) (Nat.le_of_ble_eq_true rfl) rfl (Nat.le_of_ble_eq_true rfl) zw_718 rfl ha dX0_addRange_30 ?_
    refine z_pc (pc' := 33) rfl ?_
    refine z_iconst (v := 1) dX0_addRange_33 (by decide) ?_
    refine z_iadd dX0_addRange_34 ?_
    refine z_puti (c := 0) (k := 3) (g := 3) z_cb0 (Nat.le_of_ble_eq_true rfl) (Nat.le_of_ble_eq_true rfl) (Nat.le_of_ble_eq_true rfl) rfl rfl rfl zw_718 rfl ha (Or.inl rfl) dX0_addRange_35 ?_
    refine z_nm (fun M_14 g_14 => ?_)
    replace hP := hP M_14 g_14
    have q_14 := z_k1 g_14
    have ha := z_kk q_14 ha
    exact z_retv rfl dX0_addRange_38 hP
set_option maxRecDepth 100000 in
def P_X0_greatest (a : Nat) (M : z_Mem) (Post : Int32 → z_Mem → Prop) : Prop := (((z_fi M 3 a) ≤ 0 → Post (-1) M) ∧ (¬ (z_fi M 3 a) ≤ 0 → z_nn (z_fr M 1 a) fun a4 => (vp_in 0 (z_ln M a4) ∧ (Post (z_ai M a4 ((0 : Int32).toNatClampNeg)) M))))
set_option maxRecDepth 100000 in
set_option maxHeartbeats 4000000 in
theorem s_X0_greatest {G : z_G} {M : z_Mem} {a : Nat} {Post : Int32 → z_Mem → Prop} (ha : z_ki M a = 1) (hP : P_X0_greatest a M Post) : z_Mt G Y_X0_greatest M [z_O (some a)] (z_PI Post) := by
  refine z_ofV (by decide) (Nat.le_of_ble_eq_true rfl) ?_
  unfold P_X0_greatest at hP
  refine z_sub (lv' := [(0, z_O (some a))]) [0] rfl ?_
  refine z_aload_n dX0_greatest_0 rfl 0 rfl ?_
  refine z_geti (c := 0) (k := 3) (g := 3) z_cb0 (Nat.le_of_ble_eq_true rfl) (Nat.le_of_ble_eq_true rfl) rfl (Nat.le_of_ble_eq_true rfl) zw_718 rfl ha dX0_greatest_1 ?_
  refine z_if_le (tgt := 16) dX0_greatest_4 (by decide) (fun h2 => ?_) (fun h2 => ?_)
  · replace hP := hP.1 h2
    refine z_iconst (v := (-1)) dX0_greatest_16 (by decide) ?_
    exact z_reti rfl dX0_greatest_17 hP
  · replace hP := hP.2 h2
    refine z_aload_n dX0_greatest_7 rfl 0 rfl ?_
    refine z_getr (c := 0) (k := 1) (g := 1) (t := 20) z_cb0 (Nat.le_of_ble_eq_true rfl) (Nat.le_of_ble_eq_true rfl) rfl rfl zw_713 rfl ha dX0_greatest_8 (fun f3 => ?_)
    refine z_iconst (v := 0) dX0_greatest_11 (by decide) ?_
    obtain ⟨a4, e4, hP⟩ := hP
    have k4 := f3 a4 e4
    obtain ⟨i5, hP⟩ := hP
    refine z_iald e4 k4 i5 dX0_greatest_12 ?_
    refine z_pc (pc' := 13) rfl ?_
    refine z_goto (tgt := 17) dX0_greatest_13 (by decide) ?_
    exact z_reti rfl dX0_greatest_17 hP
set_option maxRecDepth 100000 in
def P_X2_init (a : Nat) (M : z_Mem) (Post : z_Mem → Prop) : Prop := ∀ M_1 : z_Mem, M_1 = z_sfi M 256 a 0 → (∀ M_2 : z_Mem, M_2 = z_sfi M_1 257 a 160 → (∀ M_3 : z_Mem, M_3 = z_sfi M_2 258 a 999999 → (∀ M_4 : z_Mem, M_4 = z_sfi M_3 260 a 160 → (∀ M_5 : z_Mem, M_5 = z_sfi M_4 261 a 999999 → (∀ M_6 : z_Mem, M_6 = z_sfi M_5 264 a (-1) → (z_room M_6 8 ∧ (∀ M_8 : z_Mem, M_8 = z_nwa M_6 20 8 → (∀ M_9 : z_Mem, M_9 = z_sfr M_8 265 a (some (z_sz M_6)) → (Post M_9)))))))))
set_option maxRecDepth 100000 in
set_option maxHeartbeats 4000000 in
theorem s_X2_init {G : z_G} {M : z_Mem} {a : Nat} {Post : z_Mem → Prop} (ha : z_ki M a = 3) (hP : P_X2_init a M Post) : z_Mt G Y_X2_init M [z_O (some a)] (z_PV Post) := by
  refine z_ofV (by decide) (Nat.le_of_ble_eq_true rfl) ?_
  unfold P_X2_init at hP
  refine z_sub (lv' := [(0, z_O (some a))]) [0] rfl ?_
  refine z_aload_n dX2_init_0 rfl 0 rfl ?_
  refine z_objInit rfl zw_308 zw_28 zw_29 dX2_init_1 (Nat.le_of_ble_eq_true rfl) (Nat.le_of_ble_eq_true rfl) ?_
  refine z_aload_n dX2_init_4 rfl 0 rfl ?_
  refine z_iconst (v := 0) dX2_init_5 (by decide) ?_
  refine z_puti (c := 2) (k := 0) (g := 256) z_cb2 (Nat.le_of_ble_eq_true rfl) (Nat.le_of_ble_eq_true rfl) (Nat.le_of_ble_eq_true rfl) rfl rfl rfl zw_310 rfl ha (Or.inl rfl) dX2_init_6 ?_
  refine z_nm (fun M_1 g_1 => ?_)
  replace hP := hP M_1 g_1
  have q_1 := z_k1 g_1
  have ha := z_kk q_1 ha
  refine z_aload_n dX2_init_9 rfl 0 rfl ?_
  refine z_pc (pc' := 10) rfl ?_
  refine z_sipush (v := 160) dX2_init_10 (by decide) ?_
  refine z_puti (c := 2) (k := 1) (g := 257) z_cb2 (Nat.le_of_ble_eq_true rfl) (Nat.le_of_ble_eq_true rfl) (Nat.le_of_ble_eq_true rfl) rfl rfl rfl zw_312 rfl ha (Or.inl rfl) dX2_init_13 ?_
  refine z_nm (fun M_2 g_2 => ?_)
  replace hP := hP M_2 g_2
  have q_2 := z_k1 g_2
  have ha := z_kk q_2 ha
  refine z_aload_n dX2_init_16 rfl 0 rfl ?_
  refine z_ldc zw_309 dX2_init_17 ?_
  refine z_puti (c := 2) (k := 2) (g := 258) z_cb2 (Nat.le_of_ble_eq_true rfl) (Nat.le_of_ble_eq_true rfl) (Nat.le_of_ble_eq_true rfl) rfl rfl rfl zw_315 rfl ha (Or.inl rfl) dX2_init_19 ?_
  refine z_nm (fun M_3 g_3 => ?_)
  replace hP := hP M_3 g_3
  have q_3 := z_k1 g_3
  have ha := z_kk q_3 ha
  refine z_aload_n dX2_init_22 rfl 0 rfl ?_
  refine z_pc (pc' := 23) rfl ?_
  refine z_sipush (v := 160) dX2_init_23 (by decide) ?_
  refine z_puti (c := 2) (k := 4) (g := 260) z_cb2 (Nat.le_of_ble_eq_true rfl) (Nat.le_of_ble_eq_true rfl) (Nat.le_of_ble_eq_true rfl) rfl rfl rfl zw_319 rfl ha (Or.inl rfl) dX2_init_26 ?_
  refine z_nm (fun M_4 g_4 => ?_)
  replace hP := hP M_4 g_4
  have q_4 := z_k1 g_4
  have ha := z_kk q_4 ha
  refine z_aload_n dX2_init_29 rfl 0 rfl ?_
  refine z_ldc zw_309 dX2_init_30 ?_
  refine z_puti (c := 2) (k := 5) (g := 261) z_cb2 (Nat.le_of_ble_eq_true rfl) (Nat.le_of_ble_eq_true rfl) (Nat.le_of_ble_eq_true rfl) rfl rfl rfl zw_320 rfl ha (Or.inl rfl) dX2_init_32 ?_
  refine z_nm (fun M_5 g_5 => ?_)
  replace hP := hP M_5 g_5
  have q_5 := z_k1 g_5
  have ha := z_kk q_5 ha
  refine z_aload_n dX2_init_35 rfl 0 rfl ?_
  refine z_pc (pc' := 36) rfl ?_
  refine z_iconst (v := (-1)) dX2_init_36 (by decide) ?_
  refine z_puti (c := 2) (k := 8) (g := 264) z_cb2 (Nat.le_of_ble_eq_true rfl) (Nat.le_of_ble_eq_true rfl) (Nat.le_of_ble_eq_true rfl) rfl rfl rfl zw_323 rfl ha (Or.inl rfl) dX2_init_37 ?_
  refine z_nm (fun M_6 g_6 => ?_)
  replace hP := hP M_6 g_6
  have q_6 := z_k1 g_6
  have ha := z_kk q_6 ha
  refine z_aload_n dX2_init_40 rfl 0 rfl ?_
  refine z_bipush (v := 8) dX2_init_41 (by decide) ?_
  obtain ⟨r7, hP⟩ := hP
  refine z_wts (fun hT7 _ => ?_)
  refine z_newa (t := 20) (N := 8) (Or.inl ⟨rfl, rfl⟩) zw_231 rfl (Nat.le_of_ble_eq_true rfl) r7 dX2_init_43 (fun x7 k7 => ?_)
  refine z_nm (fun M_8 g_8 => ?_)
  replace hP := hP M_8 g_8
  have x7 := z_xe g_8 x7
  have k7 := z_xk g_8 k7
  have ha := x7.k (k := 2) hT7 ha
  refine z_putr (c := 2) (k := 9) (g := 265) (t := 20) z_cb2 (Nat.le_of_ble_eq_true rfl) (Nat.le_of_ble_eq_true rfl) rfl rfl rfl zw_324 rfl ha (z_trn rfl k7) (Or.inr ⟨rfl, rfl, rfl⟩) dX2_init_45 ?_
  refine z_nm (fun M_9 g_9 => ?_)
  replace hP := hP M_9 g_9
  have q_9 := z_k2 g_9
  have ha := z_kk q_9 ha
  refine z_pc (pc' := 48) rfl ?_
  exact z_retv rfl dX2_init_48 hP
set_option maxRecDepth 100000 in
def P_X7_init (a : Nat) (p1 : Int32) (M : z_Mem) (Post : z_Mem → Prop) : Prop := z_room M 11 ∧ (∀ M_2 : z_Mem, M_2 = z_new M 3 11 → (P_X2_init (z_sz M) M_2 fun M_3 => (∀ M_4 : z_Mem, M_4 = z_sfr M_3 897 a (some (z_sz M)) → (∀ M_5 : z_Mem, M_5 = z_sfi M_4 900 a 80 → (∀ M_6 : z_Mem, M_6 = z_sfi M_5 901 a 20 → (∀ M_7 : z_Mem, M_7 = z_sfi M_6 902 a 10 → (∀ M_8 : z_Mem, M_8 = z_sfi M_7 903 a 10 → (∀ M_9 : z_Mem, M_9 = z_sfi M_8 906 a (-1) → (∀ M_10 : z_Mem, M_10 = z_sfi M_9 896 a p1 → (((p1 = 0 → ∀ M_13 : z_Mem, M_13 = z_sfi M_10 898 a 1 → (Post M_13)) ∧ (¬ p1 = 0 → ∀ M_12 : z_Mem, M_12 = z_sfi M_10 898 a 0 → (Post M_12)))))))))))))
set_option maxRecDepth 100000 in
set_option maxHeartbeats 4000000 in
theorem s_X7_init {G : z_G} {M : z_Mem} {a : Nat} {p1 : Int32} {Post : z_Mem → Prop} (ha : z_ki M a = 8) (hP : P_X7_init a p1 M Post) : z_Mt G Y_X7_init M [z_O (some a), z_I p1] (z_PV Post) := by
  refine z_ofV (by decide) (Nat.le_of_ble_eq_true rfl) ?_
  unfold P_X7_init at hP
  refine z_sub (lv' := [(0, z_O (some a)), (1, z_I p1)]) [0, 1] rfl ?_
  refine z_aload_n dX7_init_0 rfl 0 rfl ?_
  refine z_objInit rfl zw_302 zw_28 zw_29 dX7_init_1 (Nat.le_of_ble_eq_true rfl) (Nat.le_of_ble_eq_true rfl) ?_
  refine z_aload_n dX7_init_4 rfl 0 rfl ?_
  obtain ⟨r1, hP⟩ := hP
  refine z_wts (fun hT1 _ => ?_)
  refine z_newo (c := 2) z_cb2 (Nat.le_of_ble_eq_true rfl) rfl z_df2 zw_303 zw_304 zw_11 r1 dX7_init_5 (fun x1 k1 => ?_)
  refine z_nm (fun M_2 g_2 => ?_)
  replace hP := hP M_2 g_2
  have x1 := z_xe g_2 x1
  have k1 := z_xk g_2 k1
  have ha := x1.k (k := 7) hT1 ha
  refine z_dup dX7_init_8 rfl ?_
  refine z_wts (fun hT3 _ => ?_)
  refine z_cINv (n := 0) (host := "Tidewater") (Y1 := Y_X2_init) (st := [z_O _, z_O _]) rfl (s_X2_init k1 hP) rfl rfl rfl ⟨z_dc_X2_init, ⟨(Nat.le_of_ble_eq_true rfl), (Nat.le_of_ble_eq_true rfl)⟩, (Nat.le_of_ble_eq_true rfl)⟩ rfl (List.mem_of_getElem? (i := 3) rfl) zw_306 zw_11 zw_307 dX7_init_9 (fun M_3 hP _ x3 => ?_)
  have ha := x3.k (k := 7) hT3 ha
  have k1 := x3.k (k := 2) hT3 k1
  refine z_pc (pc' := 12) rfl ?_
  refine z_putr (c := 7) (k := 1) (g := 897) (t := 3) z_cb7 (Nat.le_of_ble_eq_true rfl) (Nat.le_of_ble_eq_true rfl) rfl rfl rfl zw_351 rfl ha (z_trn rfl k1) (Or.inr ⟨rfl, rfl, rfl⟩) dX7_init_12 ?_
  refine z_nm (fun M_4 g_4 => ?_)
  replace hP := hP M_4 g_4
  have q_4 := z_k2 g_4
  have ha := z_kk q_4 ha
  refine z_aload_n dX7_init_15 rfl 0 rfl ?_
  refine z_bipush (v := 80) dX7_init_16 (by decide) ?_
  refine z_puti (c := 7) (k := 4) (g := 900) z_cb7 (Nat.le_of_ble_eq_true rfl) (Nat.le_of_ble_eq_true rfl) (Nat.le_of_ble_eq_true rfl) rfl rfl rfl zw_360 rfl ha (Or.inl rfl) dX7_init_18 ?_
  refine z_nm (fun M_5 g_5 => ?_)
  replace hP := hP M_5 g_5
  have q_5 := z_k1 g_5
  have ha := z_kk q_5 ha
  refine z_aload_n dX7_init_21 rfl 0 rfl ?_
  refine z_bipush (v := 20) dX7_init_22 (by decide) ?_
  refine z_pc (pc' := 24) rfl ?_
  refine z_puti (c := 7) (k := 5) (g := 901) z_cb7 (Nat.le_of_ble_eq_true rfl) (Nat.le_of_ble_eq_true rfl) (Nat.le_of_ble_eq_true rfl) rfl rfl rfl zw_362 rfl ha (Or.inl rfl) dX7_init_24 ?_
  refine z_nm (fun M_6 g_6 => ?_)
  replace hP := hP M_6 g_6
  have q_6 := z_k1 g_6
  have ha := z_kk q_6 ha
  refine z_aload_n dX7_init_27 rfl 0 rfl ?_
  refine z_bipush (v := 10) dX7_init_28 (by decide) ?_
  refine z_puti (c := 7) (k := 6) (g := 902) z_cb7 (Nat.le_of_ble_eq_true rfl) (Nat.le_of_ble_eq_true rfl) (Nat.le_of_ble_eq_true rfl) rfl rfl rfl zw_364 rfl ha (Or.inl rfl) dX7_init_30 ?_
  refine z_nm (fun M_7 g_7 => ?_)
  replace hP := hP M_7 g_7
  have q_7 := z_k1 g_7
  have ha := z_kk q_7 ha
  refine z_aload_n dX7_init_33 rfl 0 rfl ?_
  refine z_bipush (v := 10) dX7_init_34 (by decide) ?_
  refine z_pc (pc' := 36) rfl ?_
  refine z_puti (c := 7) (k := 7) (g := 903) z_cb7 (Nat.le_of_ble_eq_true rfl) (Nat.le_of_ble_eq_true rfl) (Nat.le_of_ble_eq_true rfl) rfl rfl rfl zw_367 rfl ha (Or.inl rfl) dX7_init_36 ?_
  refine z_nm (fun M_8 g_8 => ?_)
  replace hP := hP M_8 g_8
  have q_8 := z_k1 g_8
  have ha := z_kk q_8 ha
  refine z_aload_n dX7_init_39 rfl 0 rfl ?_
  refine z_iconst (v := (-1)) dX7_init_40 (by decide) ?_
  refine z_puti (c := 7) (k := 10) (g := 906) z_cb7 (Nat.le_of_ble_eq_true rfl) (Nat.le_of_ble_eq_true rfl) (Nat.le_of_ble_eq_true rfl) rfl rfl rfl zw_371 rfl ha (Or.inl rfl) dX7_init_41 ?_
  refine z_nm (fun M_9 g_9 => ?_)
  replace hP := hP M_9 g_9
  have q_9 := z_k1 g_9
  have ha := z_kk q_9 ha
  refine z_aload_n dX7_init_44 rfl 0 rfl ?_
  refine z_iload_n dX7_init_45 rfl 1 rfl ?_
  refine z_pc (pc' := 46) rfl ?_
  refine z_puti (c := 7) (k := 0) (g := 896) z_cb7 (Nat.le_of_ble_eq_true rfl) (Nat.le_of_ble_eq_true rfl) (Nat.le_of_ble_eq_true rfl) rfl rfl rfl zw_349 rfl ha (Or.inr ⟨rfl, rfl, rfl⟩) dX7_init_46 ?_
  refine z_nm (fun M_10 g_10 => ?_)
  replace hP := hP M_10 g_10
  have q_10 := z_k1 g_10
  have ha := z_kk q_10 ha
  refine z_aload_n dX7_init_49 rfl 0 rfl ?_
  refine z_iload_n dX7_init_50 rfl 1 rfl ?_
  refine z_if_ne (tgt := 58) dX7_init_51 (by decide) (fun h11 => ?_) (fun h11 => ?_)
  · replace hP := hP.2 h11
    refine z_iconst (v := 0) dX7_init_58 (by decide) ?_
    refine z_putb (c := 7) (k := 2) (g := 898) z_cb7 (Nat.le_of_ble_eq_true rfl) (Nat.le_of_ble_eq_true rfl) (Nat.le_of_ble_eq_true rfl) rfl rfl rfl zw_354 rfl ha (Or.inl rfl) (Or.inl rfl) dX7_init_59 ?_
    refine z_nm (fun M_12 g_12 => ?_)
    replace hP := hP M_12 g_12
    have q_12 := z_k1 g_12
    have ha := z_kk q_12 ha
    exact z_retv rfl dX7_init_62 hP
  · replace hP := hP.1 h11
    refine z_iconst (v := 1) dX7_init_54 (by decide) ?_
    refine z_goto (tgt := 59) dX7_init_55 (by decide) ?_
    refine z_putb (c := 7) (k := 2) (g := 898) z_cb7 (Nat.le_of_ble_eq_true rfl) (Nat.le_of_ble_eq_true rfl) (Nat.le_of_ble_eq_true rfl) rfl rfl rfl zw_354 rfl ha (Or.inr rfl) (Or.inl rfl) dX7_init_59 ?_
    refine z_nm (fun M_13 g_13 => ?_)
    replace hP := hP M_13 g_13
    have q_13 := z_k1 g_13
    have ha := z_kk q_13 ha
    exact z_retv rfl dX7_init_62 hP
set_option maxRecDepth 100000 in
def P_X1_init (a : Nat) (p1 : Option Nat) (p2 : Option Nat) (M : z_Mem) (Post : z_Mem → Prop) : Prop := z_room M 18 ∧ (∀ M_2 : z_Mem, M_2 = z_new M 8 18 → (P_X7_init (z_sz M) 0 M_2 fun M_3 => (∀ M_4 : z_Mem, M_4 = z_sfr M_3 130 a (some (z_sz M)) → (z_room M_4 18 ∧ (∀ M_6 : z_Mem, M_6 = z_new M_4 8 18 → (P_X7_init (z_sz M_4) 1 M_6 fun M_7 => (∀ M_8 : z_Mem, M_8 = z_sfr M_7 131 a (some (z_sz M_4)) → (z_room M_8 400 ∧ (∀ M_10 : z_Mem, M_10 = z_nwa M_8 23 400 → (∀ M_11 : z_Mem, M_11 = z_sfr M_10 132 a (some (z_sz M_8)) → (∀ M_12 : z_Mem, M_12 = z_sfi M_11 135 a 0 → (∀ M_13 : z_Mem, M_13 = z_sfi M_12 136 a (-1) → (∀ M_14 : z_Mem, M_14 = z_sfi M_13 140 a 10 → (∀ M_15 : z_Mem, M_15 = z_sfi M_14 144 a 100 → (∀ M_16 : z_Mem, M_16 = z_sfi M_15 145 a 3 → (∀ M_17 : z_Mem, M_17 = z_sfr M_16 128 a p1 → (∀ M_18 : z_Mem, M_18 = z_sfr M_17 129 a p2 → (Post M_18))))))))))))))))))
set_option maxRecDepth 100000 in
set_option maxHeartbeats 4000000 in
theorem s_X1_init {G : z_G} {M : z_Mem} {a : Nat} {p1 : Option Nat} {p2 : Option Nat} {Post : z_Mem → Prop} (ha : z_ki M a = 2) (f_p1 : z_tr M p1 6) (f_p2 : z_tr M p2 24) (hP : P_X1_init a p1 p2 M Post) : z_Mt G Y_X1_init M [z_O (some a), z_O p1, z_O p2] (z_PV Post) := by
  refine z_ofV (by decide) (Nat.le_of_ble_eq_true rfl) ?_
  unfold P_X1_init at hP
  refine z_sub (lv' := [(0, z_O (some a)), (1, z_O p1), (2, z_O p2)]) [0, 1, 2] rfl ?_
  refine z_aload_n dX1_init_0 rfl 0 rfl ?_
  refine z_objInit rfl zw_296 zw_28 zw_29 dX1_init_1 (Nat.le_of_ble_eq_true rfl) (Nat.le_of_ble_eq_true rfl) ?_
  refine z_aload_n dX1_init_4 rfl 0 rfl ?_
  obtain ⟨r1, hP⟩ := hP
  refine z_wts (fun hT1 _ => ?_)
  refine z_newo (c := 7) z_cb7 (Nat.le_of_ble_eq_true rfl) rfl z_df7 zw_297 zw_298 zw_10 r1 dX1_init_5 (fun x1 k1 => ?_)
  refine z_nm (fun M_2 g_2 => ?_)
  replace hP := hP M_2 g_2
  have x1 := z_xe g_2 x1
  have k1 := z_xk g_2 k1
  have ha := x1.k (k := 1) hT1 ha
  have f_p1 := x1.t (k := 5) hT1 f_p1
  have f_p2 := x1.t (k := 23) hT1 f_p2
  refine z_dup dX1_init_8 rfl ?_
  refine z_iconst (v := 0) dX1_init_9 (by decide) ?_
  refine z_pc (pc' := 10) rfl ?_
  refine z_wts (fun hT3 _ => ?_)
  refine z_cIv (n := 1) (Y1 := Y_X7_init) (st := [z_O _, z_O _]) rfl (s_X7_init k1 hP) rfl rfl rfl ⟨z_dc_X7_init, ⟨(Nat.le_of_ble_eq_true rfl), (Nat.le_of_ble_eq_true rfl)⟩, (Nat.le_of_ble_eq_true rfl)⟩ rfl zw_299 zw_300 zw_10 zw_301 dX1_init_10 (fun M_3 hP _ x3 => ?_)
  have ha := x3.k (k := 1) hT3 ha
  have f_p1 := x3.t (k := 5) hT3 f_p1
  have f_p2 := x3.t (k := 23) hT3 f_p2
  have k1 := x3.k (k := 7) hT3 k1
  refine z_putr (c := 1) (k := 2) (g := 130) (t := 8) z_cb1 (Nat.le_of_ble_eq_true rfl) (Nat.le_of_ble_eq_true rfl) rfl rfl rfl zw_427 rfl ha (z_trn rfl k1) (Or.inr ⟨rfl, rfl, rfl⟩) dX1_init_13 ?_
  refine z_nm (fun M_4 g_4 => ?_)
  replace hP := hP M_4 g_4
  have q_4 := z_k2 g_4
  have ha := z_kk q_4 ha
  have f_p1 := z_trk q_4 f_p1
  have f_p2 := z_trk q_4 f_p2
  refine z_aload_n dX1_init_16 rfl 0 rfl ?_
  obtain ⟨r5, hP⟩ := hP
  refine z_wts (fun hT5 _ => ?_)
  refine z_newo (c := 7) z_cb7 (Nat.le_of_ble_eq_true rfl) rfl z_df7 zw_297 zw_298 zw_10 r5 dX1_init_17 (fun x5 k5 => ?_)
  refine z_nm (fun M_6 g_6 => ?_)
  replace hP := hP M_6 g_6
  have x5 := z_xe g_6 x5
  have k5 := z_xk g_6 k5
  have ha := x5.k (k := 1) hT5 ha
  have f_p1 := x5.t (k := 5) hT5 f_p1
  have f_p2 := x5.t (k := 23) hT5 f_p2
  refine z_dup dX1_init_20 rfl ?_
  refine z_iconst (v := 1) dX1_init_21 (by decide) ?_
  refine z_pc (pc' := 22) rfl ?_
  refine z_wts (fun hT7 _ => ?_)
  refine z_cIv (n := 1) (Y1 := Y_X7_init) (st := [z_O _, z_O _]) rfl (s_X7_init k5 hP) rfl rfl rfl ⟨z_dc_X7_init, ⟨(Nat.le_of_ble_eq_true rfl), (Nat.le_of_ble_eq_true rfl)⟩, (Nat.le_of_ble_eq_true rfl)⟩ rfl zw_299 zw_300 zw_10 zw_301 dX1_init_22 (fun M_7 hP _ x7 => ?_)
  have ha := x7.k (k := 1) hT7 ha
  have f_p1 := x7.t (k := 5) hT7 f_p1
  have f_p2 := x7.t (k := 23) hT7 f_p2
  have k5 := x7.k (k := 7) hT7 k5
  refine z_putr (c := 1) (k := 3) (g := 131) (t := 8) z_cb1 (Nat.le_of_ble_eq_true rfl) (Nat.le_of_ble_eq_true rfl) rfl rfl rfl zw_428 rfl ha (z_trn rfl k5) (Or.inr ⟨rfl, rfl, rfl⟩) dX1_init_25 ?_
  refine z_nm (fun M_8 g_8 => ?_)
  replace hP := hP M_8 g_8
  have q_8 := z_k2 g_8
  have ha := z_kk q_8 ha
  have f_p1 := z_trk q_8 f_p1
  have f_p2 := z_trk q_8 f_p2
  refine z_aload_n dX1_init_28 rfl 0 rfl ?_
  refine z_sipush (v := 400) dX1_init_29 (by decide) ?_
  obtain ⟨r9, hP⟩ := hP
  refine z_wts (fun hT9 _ => ?_)
  refine z_newq (t := 23) (tt := 3) (N := 400) (Nat.le_of_ble_eq_true rfl) (Nat.le_of_ble_eq_true rfl) rfl (fun _ => rfl) zw_423 rfl (Nat.le_of_ble_eq_true rfl) r9 dX1_init_32 (fun x9 k9 => ?_)
  refine z_nm (fun M_10 g_10 => ?_)
  replace hP := hP M_10 g_10
  have x9 := z_xe g_10 x9
  have k9 := z_xk g_10 k9
  have ha := x9.k (k := 1) hT9 ha
  have f_p1 := x9.t (k := 5) hT9 f_p1
  have f_p2 := x9.t (k := 23) hT9 f_p2
  refine z_putr (c := 1) (k := 4) (g := 132) (t := 23) z_cb1 (Nat.le_of_ble_eq_true rfl) (Nat.le_of_ble_eq_true rfl) rfl rfl rfl zw_429 rfl ha (z_trn rfl k9) (Or.inr ⟨rfl, rfl, rfl⟩) dX1_init_35 ?_
  refine z_nm (fun M_11 g_11 => ?_)
  replace hP := hP M_11 g_11
  have q_11 := z_k2 g_11
  have ha := z_kk q_11 ha
  have f_p1 := z_trk q_11 f_p1
  have f_p2 := z_trk q_11 f_p2
  refine z_pc (pc' := 38) rfl ?_
  refine z_aload_n dX1_init_38 rfl 0 rfl ?_
  refine z_iconst (v := 0) dX1_init_39 (by decide) ?_
  refine z_puti (c := 1) (k := 7) (g := 135) z_cb1 (Nat.le_of_ble_eq_true rfl) (Nat.le_of_ble_eq_true rfl) (Nat.le_of_ble_eq_true rfl) rfl rfl rfl zw_433 rfl ha (Or.inl rfl) dX1_init_40 ?_
  refine z_nm (fun M_12 g_12 => ?_)
  replace hP := hP M_12 g_12
  have q_12 := z_k1 g_12
  have ha := z_kk q_12 ha
  have f_p1 := z_trk q_12 f_p1
  have f_p2 := z_trk q_12 f_p2
  refine z_aload_n dX1_init_43 rfl 0 rfl ?_
  refine z_iconst (v := (-1)) dX1_init_44 (by decide) ?_
  refine z_puti (c := 1) (k := 8) (g := 136) z_cb1 (Nat.le_of_ble_eq_true rfl) (Nat.le_of_ble_eq_true rfl) (Nat.le_of_ble_eq_true rfl) rfl rfl rfl zw_435 rfl ha (Or.inl rfl) dX1_init_45 ?_
  refine z_nm (fun M_13 g_13 => ?_)
  replace hP := hP M_13 g_13
  have q_13 := z_k1 g_13
  have ha := z_kk q_13 ha
  have f_p1 := z_trk q_13 f_p1
  have f_p2 := z_trk q_13 f_p2
  refine z_pc (pc' := 48) rfl ?_
  refine z_aload_n dX1_init_48 rfl 0 rfl ?_
  refine z_bipush (v := 10) dX1_init_49 (by decide) ?_
  refine z_puti (c := 1) (k := 12) (g := 140) z_cb1 (Nat.le_of_ble_eq_true rfl) (Nat.le_of_ble_eq_true rfl) (Nat.le_of_ble_eq_true rfl) rfl rfl rfl zw_440 rfl ha (Or.inl rfl) dX1_init_51 ?_
  refine z_nm (fun M_14 g_14 => ?_)
  replace hP := hP M_14 g_14
  have q_14 := z_k1 g_14
  have ha := z_kk q_14 ha
  have f_p1 := z_trk q_14 f_p1
  have f_p2 := z_trk q_14 f_p2
  refine z_aload_n dX1_init_54 rfl 0 rfl ?_
  refine z_bipush (v := 100) dX1_init_55 (by decide) ?_
  refine z_puti (c := 1) (k := 16) (g := 144) z_cb1 (Nat.le_of_ble_eq_true rfl) (Nat.le_of_ble_eq_true rfl) (Nat.le_of_ble_eq_true rfl) rfl rfl rfl zw_446 rfl ha (Or.inl rfl) dX1_init_57 ?_
  refine z_nm (fun M_15 g_15 => ?_)
  replace hP := hP M_15 g_15
  have q_15 := z_k1 g_15
  have ha := z_kk q_15 ha
  have f_p1 := z_trk q_15 f_p1
  have f_p2 := z_trk q_15 f_p2
  refine z_pc (pc' := 60) rfl ?_
  refine z_aload_n dX1_init_60 rfl 0 rfl ?_
  refine z_iconst (v := 3) dX1_init_61 (by decide) ?_
  refine z_puti (c := 1) (k := 17) (g := 145) z_cb1 (Nat.le_of_ble_eq_true rfl) (Nat.le_of_ble_eq_true rfl) (Nat.le_of_ble_eq_true rfl) rfl rfl rfl zw_448 rfl ha (Or.inl rfl) dX1_init_62 ?_
  refine z_nm (fun M_16 g_16 => ?_)
  replace hP := hP M_16 g_16
  have q_16 := z_k1 g_16
  have ha := z_kk q_16 ha
  have f_p1 := z_trk q_16 f_p1
  have f_p2 := z_trk q_16 f_p2
  refine z_aload_n dX1_init_65 rfl 0 rfl ?_
  refine z_aload_n dX1_init_66 rfl 1 rfl ?_
  refine z_putr (c := 1) (k := 0) (g := 128) (t := 6) z_cb1 (Nat.le_of_ble_eq_true rfl) (Nat.le_of_ble_eq_true rfl) rfl rfl rfl zw_425 rfl ha f_p1 (Or.inr ⟨rfl, rfl, rfl⟩) dX1_init_67 ?_
  refine z_nm (fun M_17 g_17 => ?_)
  replace hP := hP M_17 g_17
  have q_17 := z_k2 g_17
  have ha := z_kk q_17 ha
  have f_p1 := z_trk q_17 f_p1
  have f_p2 := z_trk q_17 f_p2
  refine z_pc (pc' := 70) rfl ?_
  refine z_aload_n dX1_init_70 rfl 0 rfl ?_
  refine z_aload_n dX1_init_71 rfl 2 rfl ?_
  refine z_putr (c := 1) (k := 1) (g := 129) (t := 24) z_cb1 (Nat.le_of_ble_eq_true rfl) (Nat.le_of_ble_eq_true rfl) rfl rfl rfl zw_426 rfl ha f_p2 (Or.inr ⟨rfl, rfl, rfl⟩) dX1_init_72 ?_
  refine z_nm (fun M_18 g_18 => ?_)
  replace hP := hP M_18 g_18
  have q_18 := z_k2 g_18
  have ha := z_kk q_18 ha
  have f_p1 := z_trk q_18 f_p1
  have f_p2 := z_trk q_18 f_p2
  exact z_retv rfl dX1_init_75 hP
set_option maxRecDepth 100000 in
def P_X1_routeOf (a : Nat) (p1 : Int32) (M : z_Mem) (Post : Option Nat → z_Mem → Prop) : Prop := ((p1 = 0 → Post (z_fr M 130 a) M) ∧ (¬ p1 = 0 → Post (z_fr M 131 a) M))
set_option maxRecDepth 100000 in
set_option maxHeartbeats 4000000 in
theorem s_X1_routeOf {G : z_G} {M : z_Mem} {a : Nat} {p1 : Int32} {Post : Option Nat → z_Mem → Prop} (ha : z_ki M a = 2) (hP : P_X1_routeOf a p1 M Post) : z_Mt G Y_X1_routeOf M [z_O (some a), z_I p1] (z_PO 8 Post) := by
  refine z_ofV (by decide) (Nat.le_of_ble_eq_true rfl) ?_
  unfold P_X1_routeOf at hP
  refine z_sub (lv' := [(0, z_O (some a)), (1, z_I p1)]) [0, 1] rfl ?_
  refine z_iload_n dX1_routeOf_0 rfl 1 rfl ?_
  refine z_if_ne (tgt := 11) dX1_routeOf_1 (by decide) (fun h1 => ?_) (fun h1 => ?_)
  · replace hP := hP.2 h1
    refine z_aload_n dX1_routeOf_11 rfl 0 rfl ?_
    refine z_getr (c := 1) (k := 3) (g := 131) (t := 8) z_cb1 (Nat.le_of_ble_eq_true rfl) (Nat.le_of_ble_eq_true rfl) rfl rfl zw_428 rfl ha dX1_routeOf_12 (fun f2 => ?_)
    exact z_reto (k := 8) rfl f2 dX1_routeOf_15 hP
  · replace hP := hP.1 h1
    refine z_aload_n dX1_routeOf_4 rfl 0 rfl ?_
    refine z_getr (c := 1) (k := 2) (g := 130) (t := 8) z_cb1 (Nat.le_of_ble_eq_true rfl) (Nat.le_of_ble_eq_true rfl) rfl rfl zw_427 rfl ha dX1_routeOf_5 (fun f3 => ?_)
    refine z_goto (tgt := 15) dX1_routeOf_8 (by decide) ?_
    exact z_reto (k := 8) rfl f3 dX1_routeOf_15 hP
set_option maxRecDepth 100000 in
def P_X1_packetAt (a : Nat) (p1 : Int32) (M : z_Mem) (Post : Option Nat → z_Mem → Prop) : Prop := ((p1 < 0 → Post none M) ∧ (¬ p1 < 0 → (((z_fi M 133 a) ≤ p1 → Post none M) ∧ (¬ (z_fi M 133 a) ≤ p1 → ((400 ≤ p1 → Post none M) ∧ (¬ 400 ≤ p1 → z_nn (z_fr M 132 a) fun a6 => (vp_in p1 (z_ln M a6) ∧ (Post (z_ar M a6 ((p1 : Int32).toNatClampNeg)) M))))))))
set_option maxRecDepth 100000 in
set_option maxHeartbeats 4000000 in
theorem s_X1_packetAt {G : z_G} {M : z_Mem} {a : Nat} {p1 : Int32} {Post : Option Nat → z_Mem → Prop} (ha : z_ki M a = 2) (hP : P_X1_packetAt a p1 M Post) : z_Mt G Y_X1_packetAt M [z_O (some a), z_I p1] (z_PO 7 Post) := by
  refine z_ofV (by decide) (Nat.le_of_ble_eq_true rfl) ?_
  unfold P_X1_packetAt at hP
  refine z_sub (lv' := [(0, z_O (some a)), (1, z_I p1)]) [0, 1] rfl ?_
  refine z_iload_n dX1_packetAt_0 rfl 1 rfl ?_
  refine z_if_lt (tgt := 28) dX1_packetAt_1 (by decide) (fun h1 => ?_) (fun h1 => ?_)
  · replace hP := hP.1 h1
    refine z_null dX1_packetAt_28 ?_
    exact z_reto (k := 7) rfl z_tr0 dX1_packetAt_29 hP
  · replace hP := hP.2 h1
    refine z_iload_n dX1_packetAt_4 rfl 1 rfl ?_
    refine z_aload_n dX1_packetAt_5 rfl 0 rfl ?_
    refine z_geti (c := 1) (k := 5) (g := 133) z_cb1 (Nat.le_of_ble_eq_true rfl) (Nat.le_of_ble_eq_true rfl) rfl (Nat.le_of_ble_eq_true rfl) zw_430 rfl ha dX1_packetAt_6 ?_
    refine z_icmp_ge (tgt := 28) dX1_packetAt_9 (by decide) (fun h3 => ?_) (fun h3 => ?_)
    · replace hP := hP.1 h3
      refine z_null dX1_packetAt_28 ?_
      exact z_reto (k := 7) rfl z_tr0 dX1_packetAt_29 hP
    · replace hP := hP.2 h3
      refine z_iload_n dX1_packetAt_12 rfl 1 rfl ?_
      refine z_sipush (v := 400) dX1_packetAt_13 (by decide) ?_
      refine z_pc (pc' := 16) rfl ?_
      refine z_icmp_ge (tgt := 28) dX1_packetAt_16 (by decide) (fun h4 => ?_) (fun h4 => ?_)
      · replace hP := hP.1 h4
        refine z_null dX1_packetAt_28 ?_
        exact z_reto (k := 7) rfl z_tr0 dX1_packetAt_29 hP
      · replace hP := hP.2 h4
        refine z_aload_n dX1_packetAt_19 rfl 0 rfl ?_
        refine z_getr (c := 1) (k := 4) (g := 132) (t := 23) z_cb1 (Nat.le_of_ble_eq_true rfl) (Nat.le_of_ble_eq_true rfl) rfl rfl zw_429 rfl ha dX1_packetAt_20 (fun f5 => ?_)
        refine z_iload_n dX1_packetAt_23 rfl 1 rfl ?_
        obtain ⟨a6, e6, hP⟩ := hP
        have k6 := f5 a6 e6
        obtain ⟨i7, hP⟩ := hP
        refine z_aald (t := 23) e6 k6 (Nat.le_of_ble_eq_true rfl) (Nat.le_of_ble_eq_true rfl) i7 dX1_packetAt_24 (fun f7 => ?_)
        refine z_goto (tgt := 29) dX1_packetAt_25 (by decide) ?_
        exact z_reto (k := 7) rfl f7 dX1_packetAt_29 hP
set_option maxRecDepth 100000 in
def P_X4_init (a : Nat) (p1 : Int32) (M : z_Mem) (Post : z_Mem → Prop) : Prop := ∀ M_1 : z_Mem, M_1 = z_sfi M 517 a (-1) → (∀ M_2 : z_Mem, M_2 = z_sfi M_1 512 a p1 → (Post M_2))
set_option maxRecDepth 100000 in
set_option maxHeartbeats 4000000 in
theorem s_X4_init {G : z_G} {M : z_Mem} {a : Nat} {p1 : Int32} {Post : z_Mem → Prop} (ha : z_ki M a = 5) (hP : P_X4_init a p1 M Post) : z_Mt G Y_X4_init M [z_O (some a), z_I p1] (z_PV Post) := by
  refine z_ofV (by decide) (Nat.le_of_ble_eq_true rfl) ?_
  unfold P_X4_init at hP
  refine z_sub (lv' := [(0, z_O (some a)), (1, z_I p1)]) [0, 1] rfl ?_
  refine z_aload_n dX4_init_0 rfl 0 rfl ?_
  refine z_objInit rfl zw_119 zw_28 zw_29 dX4_init_1 (Nat.le_of_ble_eq_true rfl) (Nat.le_of_ble_eq_true rfl) ?_
  refine z_aload_n dX4_init_4 rfl 0 rfl ?_
  refine z_iconst (v := (-1)) dX4_init_5 (by decide) ?_
  refine z_puti (c := 4) (k := 5) (g := 517) z_cb4 (Nat.le_of_ble_eq_true rfl) (Nat.le_of_ble_eq_true rfl) (Nat.le_of_ble_eq_true rfl) rfl rfl rfl zw_133 rfl ha (Or.inl rfl) dX4_init_6 ?_
  refine z_nm (fun M_1 g_1 => ?_)
  replace hP := hP M_1 g_1
  have q_1 := z_k1 g_1
  have ha := z_kk q_1 ha
  refine z_aload_n dX4_init_9 rfl 0 rfl ?_
  refine z_pc (pc' := 10) rfl ?_
  refine z_iload_n dX4_init_10 rfl 1 rfl ?_
  refine z_puti (c := 4) (k := 0) (g := 512) z_cb4 (Nat.le_of_ble_eq_true rfl) (Nat.le_of_ble_eq_true rfl) (Nat.le_of_ble_eq_true rfl) rfl rfl rfl zw_120 rfl ha (Or.inr ⟨rfl, rfl, rfl⟩) dX4_init_11 ?_
  refine z_nm (fun M_2 g_2 => ?_)
  replace hP := hP M_2 g_2
  have q_2 := z_k1 g_2
  have ha := z_kk q_2 ha
  exact z_retv rfl dX4_init_14 hP
set_option maxRecDepth 100000 in
def P_X5_laneOf (a : Nat) (p1 : Int32) (M : z_Mem) (Post : Option Nat → z_Mem → Prop) : Prop := ((p1 = 0 → Post (z_fr M 640 a) M) ∧ (¬ p1 = 0 → Post (z_fr M 641 a) M))
set_option maxRecDepth 100000 in
set_option maxHeartbeats 4000000 in
theorem s_X5_laneOf {G : z_G} {M : z_Mem} {a : Nat} {p1 : Int32} {Post : Option Nat → z_Mem → Prop} (ha : z_ki M a = 6) (hP : P_X5_laneOf a p1 M Post) : z_Mt G Y_X5_laneOf M [z_O (some a), z_I p1] (z_PO 4 Post) := by
  refine z_ofV (by decide) (Nat.le_of_ble_eq_true rfl) ?_
  unfold P_X5_laneOf at hP
  refine z_sub (lv' := [(0, z_O (some a)), (1, z_I p1)]) [0, 1] rfl ?_
  refine z_iload_n dX5_laneOf_0 rfl 1 rfl ?_
  refine z_if_ne (tgt := 11) dX5_laneOf_1 (by decide) (fun h1 => ?_) (fun h1 => ?_)
  · replace hP := hP.2 h1
    refine z_aload_n dX5_laneOf_11 rfl 0 rfl ?_
    refine z_getr (c := 5) (k := 1) (g := 641) (t := 4) z_cb5 (Nat.le_of_ble_eq_true rfl) (Nat.le_of_ble_eq_true rfl) rfl rfl zw_158 rfl ha dX5_laneOf_12 (fun f2 => ?_)
    exact z_reto (k := 4) rfl f2 dX5_laneOf_15 hP
  · replace hP := hP.1 h1
    refine z_aload_n dX5_laneOf_4 rfl 0 rfl ?_
    refine z_getr (c := 5) (k := 0) (g := 640) (t := 4) z_cb5 (Nat.le_of_ble_eq_true rfl) (Nat.le_of_ble_eq_true rfl) rfl rfl zw_157 rfl ha dX5_laneOf_5 (fun f3 => ?_)
    refine z_goto (tgt := 15) dX5_laneOf_8 (by decide) ?_
    exact z_reto (k := 4) rfl f3 dX5_laneOf_15 hP
set_option maxRecDepth 100000 in
def P_X3_hasRoom (a : Nat) (M : z_Mem) (Post : Int32 → z_Mem → Prop) : Prop := (((z_fi M 386 a) ≤ (z_fi M 395 a) → Post 0 M) ∧ (¬ (z_fi M 386 a) ≤ (z_fi M 395 a) → ((30 ≤ (z_fi M 395 a) → Post 0 M) ∧ (¬ 30 ≤ (z_fi M 395 a) → Post 1 M))))
set_option maxRecDepth 100000 in
set_option maxHeartbeats 4000000 in
theorem s_X3_hasRoom {G : z_G} {M : z_Mem} {a : Nat} {Post : Int32 → z_Mem → Prop} (ha : z_ki M a = 4) (hP : P_X3_hasRoom a M Post) : z_Mt G Y_X3_hasRoom M [z_O (some a)] (z_PB Post) := by
  refine z_ofV (by decide) (Nat.le_of_ble_eq_true rfl) ?_
  unfold P_X3_hasRoom at hP
  refine z_sub (lv' := [(0, z_O (some a))]) [0] rfl ?_
  refine z_aload_n dX3_hasRoom_0 rfl 0 rfl ?_
  refine z_geti (c := 3) (k := 11) (g := 395) z_cb3 (Nat.le_of_ble_eq_true rfl) (Nat.le_of_ble_eq_true rfl) rfl (Nat.le_of_ble_eq_true rfl) zw_68 rfl ha dX3_hasRoom_1 ?_
  refine z_aload_n dX3_hasRoom_4 rfl 0 rfl ?_
  refine z_geti (c := 3) (k := 2) (g := 386) z_cb3 (Nat.le_of_ble_eq_true rfl) (Nat.le_of_ble_eq_true rfl) rfl (Nat.le_of_ble_eq_true rfl) zw_50 rfl ha dX3_hasRoom_5 ?_
  refine z_icmp_ge (tgt := 24) dX3_hasRoom_8 (by decide) (fun h3 => ?_) (fun h3 => ?_)
  · replace hP := hP.1 h3
    refine z_iconst (v := 0) dX3_hasRoom_24 (by decide) ?_
    exact z_retb rfl (Or.inl rfl) dX3_hasRoom_25 hP
  · replace hP := hP.2 h3
    refine z_aload_n dX3_hasRoom_11 rfl 0 rfl ?_
    refine z_geti (c := 3) (k := 11) (g := 395) z_cb3 (Nat.le_of_ble_eq_true rfl) (Nat.le_of_ble_eq_true rfl) rfl (Nat.le_of_ble_eq_true rfl) zw_68 rfl ha dX3_hasRoom_12 ?_
    refine z_pc (pc' := 15) rfl ?_
    refine z_bipush (v := 30) dX3_hasRoom_15 (by decide) ?_
    refine z_icmp_ge (tgt := 24) dX3_hasRoom_17 (by decide) (fun h5 => ?_) (fun h5 => ?_)
    · replace hP := hP.1 h5
      refine z_iconst (v := 0) dX3_hasRoom_24 (by decide) ?_
      exact z_retb rfl (Or.inl rfl) dX3_hasRoom_25 hP
    · replace hP := hP.2 h5
      refine z_iconst (v := 1) dX3_hasRoom_20 (by decide) ?_
      refine z_goto (tgt := 25) dX3_hasRoom_21 (by decide) ?_
      exact z_retb rfl (Or.inr rfl) dX3_hasRoom_25 hP
set_option maxRecDepth 100000 in
def P_X3_letsToServer (a : Nat) (M : z_Mem) (Post : Int32 → z_Mem → Prop) : Prop := (((z_fi M 388 a) = 0 → Post 0 M) ∧ (¬ (z_fi M 388 a) = 0 → (((z_fi M 389 a) ≤ 0 → P_X3_hasRoom a M fun x_5 M_5 => (Post x_5 M_5)) ∧ (¬ (z_fi M 389 a) ≤ 0 → ∀ M_7 : z_Mem, M_7 = z_sfi M 389 a ((z_fi M 389 a) - 1) → (Post 0 M_7)))))
set_option maxRecDepth 100000 in
set_option maxHeartbeats 4000000 in
theorem s_X3_letsToServer {G : z_G} {M : z_Mem} {a : Nat} {Post : Int32 → z_Mem → Prop} (ha : z_ki M a = 4) (hP : P_X3_letsToServer a M Post) : z_Mt G Y_X3_letsToServer M [z_O (some a)] (z_PB Post) := by
  refine z_ofV (by decide) (Nat.le_of_ble_eq_true rfl) ?_
  unfold P_X3_letsToServer at hP
  refine z_sub (lv' := [(0, z_O (some a))]) [0] rfl ?_
  refine z_aload_n dX3_letsToServer_0 rfl 0 rfl ?_
  refine z_getb (c := 3) (k := 4) (g := 388) z_cb3 (Nat.le_of_ble_eq_true rfl) (Nat.le_of_ble_eq_true rfl) rfl rfl zw_55 rfl ha dX3_letsToServer_1 (fun b1 => ?_)
  refine z_if_ne (tgt := 9) dX3_letsToServer_4 (by decide) (fun h2 => ?_) (fun h2 => ?_)
  · replace hP := hP.2 h2
    refine z_aload_n dX3_letsToServer_9 rfl 0 rfl ?_
    refine z_geti (c := 3) (k := 5) (g := 389) z_cb3 (Nat.le_of_ble_eq_true rfl) (Nat.le_of_ble_eq_true rfl) rfl (Nat.le_of_ble_eq_true rfl) zw_57 rfl ha dX3_letsToServer_10 ?_
    refine z_if_le (tgt := 28) dX3_letsToServer_13 (by decide) (fun h4 => ?_) (fun h4 => ?_)
    · replace hP := hP.1 h4
      refine z_aload_n dX3_letsToServer_28 rfl 0 rfl ?_
      refine z_wts (fun hT5 _ => ?_)
      refine z_cVb (c := 3) (n := 0) (Y1 := Y_X3_hasRoom) (st := []) rfl ha z_cb3 (Nat.le_of_ble_eq_true rfl) rfl (s_X3_hasRoom ha hP) rfl ⟨z_dc_X3_hasRoom, ⟨(Nat.le_of_ble_eq_true rfl), (Nat.le_of_ble_eq_true rfl)⟩, (Nat.le_of_ble_eq_true rfl)⟩ rfl zw_802 zw_669 zw_670 zw_3 zw_671 dX3_letsToServer_29 (fun x_5 M_5 b5 hP _ x5 => ?_)
      have ha := x5.k (k := 3) hT5 ha
      refine z_pc (pc' := 32) rfl ?_
      exact z_retb rfl b5 dX3_letsToServer_32 hP
    · replace hP := hP.2 h4
      refine z_aload_n dX3_letsToServer_16 rfl 0 rfl ?_
      refine z_dup dX3_letsToServer_17 rfl ?_
      refine z_pc (pc' := 18) rfl ?_
      refine z_geti (c := 3) (k := 5) (g := 389) z_cb3 (Nat.le_of_ble_eq_true rfl) (Nat.le_of_ble_eq_true rfl) rfl (Nat.le_of_ble_eq_true rfl) zw_57 rfl ha dX3_letsToServer_18 ?_
      refine z_iconst (v := 1) dX3_letsToServer_21 (by decide) ?_
      refine z_isub dX3_letsToServer_22 ?_
      refine z_puti (c := 3) (k := 5) (g := 389) z_cb3 (Nat.le_of_ble_eq_true rfl) (Nat.le_of_ble_eq_true rfl) (Nat.le_of_ble_eq_true rfl) rfl rfl rfl zw_57 rfl ha (Or.inl rfl) dX3_letsToServer_23 ?_
      refine z_nm (fun M_7 g_7 => ?_)
      replace hP := hP M_7 g_7
      have q_7 := z_k1 g_7
      have ha := z_kk q_7 ha
      refine z_iconst (v := 0) dX3_letsToServer_26 (by decide) ?_
      exact z_retb rfl (Or.inl rfl) dX3_letsToServer_27 hP
  · replace hP := hP.1 h2
    refine z_iconst (v := 0) dX3_letsToServer_7 (by decide) ?_
    exact z_retb rfl (Or.inl rfl) dX3_letsToServer_8 hP
set_option maxRecDepth 100000 in
def P_X3_append (a : Nat) (p1 : Option Nat) (M : z_Mem) (Post : z_Mem → Prop) : Prop := ((30 ≤ (z_fi M 395 a) → Post M) ∧ (¬ 30 ≤ (z_fi M 395 a) → z_nn (z_fr M 393 a) fun a6 => (vp_in (((z_fi M 394 a) + (z_fi M 395 a)) - ((z_fi M 394 a) + (z_fi M 395 a)) / 30 * 30) (z_ln M a6) ∧ (∀ M_8 : z_Mem, M_8 = z_sar M a6 (((((z_fi M 394 a) + (z_fi M 395 a)) - ((z_fi M 394 a) + (z_fi M 395 a)) / 30 * 30) : Int32).toNatClampNeg) p1 → (∀ M_10 : z_Mem, M_10 = z_sfi M_8 395 a ((z_fi M_8 395 a) + 1) → (Post M_10))))))
set_option maxRecDepth 100000 in
set_option maxHeartbeats 4000000 in
theorem s_X3_append {G : z_G} {M : z_Mem} {a : Nat} {p1 : Option Nat} {Post : z_Mem → Prop} (ha : z_ki M a = 4) (f_p1 : z_tr M p1 5) (hP : P_X3_append a p1 M Post) : z_Mt G Y_X3_append M [z_O (some a), z_O p1] (z_PV Post) := by
  refine z_ofV (by decide) (Nat.le_of_ble_eq_true rfl) ?_
  unfold P_X3_append at hP
  refine z_sub (lv' := [(0, z_O (some a)), (1, z_O p1)]) [0, 1] rfl ?_
  refine z_aload_n dX3_append_0 rfl 0 rfl ?_
  refine z_geti (c := 3) (k := 11) (g := 395) z_cb3 (Nat.le_of_ble_eq_true rfl) (Nat.le_of_ble_eq_true rfl) rfl (Nat.le_of_ble_eq_true rfl) zw_68 rfl ha dX3_append_1 ?_
  refine z_bipush (v := 30) dX3_append_4 (by decide) ?_
  refine z_icmp_ge (tgt := 37) dX3_append_6 (by decide) (fun h2 => ?_) (fun h2 => ?_)
  · replace hP := hP.1 h2
    exact z_retv rfl dX3_append_37 hP
  · replace hP := hP.2 h2
    refine z_aload_n dX3_append_9 rfl 0 rfl ?_
    refine z_getr (c := 3) (k := 9) (g := 393) (t := 22) z_cb3 (Nat.le_of_ble_eq_true rfl) (Nat.le_of_ble_eq_true rfl) rfl rfl zw_65 rfl ha dX3_append_10 (fun f3 => ?_)
    refine z_aload_n dX3_append_13 rfl 0 rfl ?_
    refine z_pc (pc' := 14) rfl ?_
    refine z_geti (c := 3) (k := 10) (g := 394) z_cb3 (Nat.le_of_ble_eq_true rfl) (Nat.le_of_ble_eq_true rfl) rfl (Nat.le_of_ble_eq_true rfl) zw_66 rfl ha dX3_append_14 ?_
    refine z_aload_n dX3_append_17 rfl 0 rfl ?_
    refine z_geti (c := 3) (k := 11) (g := 395) z_cb3 (Nat.le_of_ble_eq_true rfl) (Nat.le_of_ble_eq_true rfl) rfl (Nat.le_of_ble_eq_true rfl) zw_68 rfl ha dX3_append_18 ?_
    refine z_iadd dX3_append_21 ?_
    refine z_bipush (v := 30) dX3_append_22 (by decide) ?_
    refine z_irem dX3_append_24 (by decide) ?_
    refine z_pc (pc' := 25) rfl ?_
    refine z_aload_n dX3_append_25 rfl 1 rfl ?_
    obtain ⟨a6, e6, hP⟩ := hP
    have k6 := f3 a6 e6
    obtain ⟨i7, hP⟩ := hP
    refine z_aast (t := 22) e6 k6 (Nat.le_of_ble_eq_true rfl) (Nat.le_of_ble_eq_true rfl) i7 f_p1 dX3_append_26 ?_
    refine z_nm (fun M_8 g_8 => ?_)
    replace hP := hP M_8 g_8
    have q_8 := z_k4 g_8
    have ha := z_kk q_8 ha
    have f_p1 := z_trk q_8 f_p1
    refine z_aload_n dX3_append_27 rfl 0 rfl ?_
    refine z_dup dX3_append_28 rfl ?_
    refine z_geti (c := 3) (k := 11) (g := 395) z_cb3 (Nat.le_of_ble_eq_true rfl) (Nat.le_of_ble_eq_true rfl) rfl (Nat.le_of_ble_eq_true rfl) zw_68 rfl ha dX3_append_29 ?_
    refine z_iconst (v := 1) dX3_append_32 (by decide) ?_
    refine z_pc (pc' := 33) rfl ?_
    refine z_iadd dX3_append_33 ?_
    refine z_puti (c := 3) (k := 11) (g := 395) z_cb3 (Nat.le_of_ble_eq_true rfl) (Nat.le_of_ble_eq_true rfl) (Nat.le_of_ble_eq_true rfl) rfl rfl rfl zw_68 rfl ha (Or.inl rfl) dX3_append_34 ?_
    refine z_nm (fun M_10 g_10 => ?_)
    replace hP := hP M_10 g_10
    have q_10 := z_k1 g_10
    have ha := z_kk q_10 ha
    have f_p1 := z_trk q_10 f_p1
    exact z_retv rfl dX3_append_37 hP
def P_X5_putToServer_49 (a : Nat) (Post : z_Mem → Prop)  (x2 : Option Nat) (x3 : Option Nat) (x4 : Int32) (t0 : Option Nat) (t1 : Int32) (M : z_Mem) : Prop := z_nn t0 fun a1 => (∀ M_2 : z_Mem, M_2 = z_sfi M 777 a1 t1 → (((x4 = 0 → z_nn x2 fun a7 => (z_nn (z_fr M_2 515 a7) fun a9 => (∀ M_10 : z_Mem, M_10 = z_sfi M_2 779 a9 3 → (((x4 = 0 → Post M_10) ∧ (¬ x4 = 0 → z_nn x3 fun a13 => (P_X3_append a13 x2 M_10 fun M_12 => (Post M_12)))))))) ∧ (¬ x4 = 0 → ((x4 = 0 → Post M_2) ∧ (¬ x4 = 0 → z_nn x3 fun a6 => (P_X3_append a6 x2 M_2 fun M_5 => (Post M_5))))))))
def P_X5_putToServer_48 (a : Nat) (Post : z_Mem → Prop)  (x2 : Option Nat) (x3 : Option Nat) (x4 : Int32) (t0 : Option Nat) (M : z_Mem) : Prop := P_X5_putToServer_49 a Post x2 x3 x4 t0 0 M
set_option maxRecDepth 100000 in
def P_X5_putToServer (a : Nat) (p1 : Int32) (p2 : Option Nat) (M : z_Mem) (Post : z_Mem → Prop) : Prop := P_X5_laneOf a p1 M fun x_14 M_14 => (z_nn p2 fun a15 => (∀ M_16 : z_Mem, M_16 = z_sfi M_14 513 a15 p1 → (z_nn x_14 fun a18 => (P_X3_letsToServer a18 M_16 fun x_17 M_17 => ((((z_fr M_17 515 a15) = none → ((x_17 = 0 → Post M_17) ∧ (¬ x_17 = 0 → P_X3_append a18 p2 M_17 fun M_22 => (Post M_22)))) ∧ (∀ a20 : Nat, (z_fr M_17 515 a15) = some a20 → ((x_17 = 0 → P_X5_putToServer_48 a Post p2 x_14 x_17 (z_fr M_17 515 a15) M_17) ∧ (¬ x_17 = 0 → (((z_fi M_17 395 a18) < (z_fi M_17 387 a18) → P_X5_putToServer_48 a Post p2 x_14 x_17 (z_fr M_17 515 a15) M_17) ∧ (¬ (z_fi M_17 395 a18) < (z_fi M_17 387 a18) → P_X5_putToServer_49 a Post p2 x_14 x_17 (z_fr M_17 515 a15) 1 M_17)))))))))))
set_option maxRecDepth 100000 in
set_option maxHeartbeats 4000000 in
theorem v_X5_putToServer_49 {G : z_G} {M0 : z_Mem} {a : Nat} {Post : z_Mem → Prop}   {x2 : Option Nat} {x3 : Option Nat} {x4 : Int32} {t0 : Option Nat} {t1 : Int32} {M : z_Mem} (ha : z_ki M a = 6) (f_x2 : z_tr M x2 5) (f_x3 : z_tr M x3 4) (f_x4 : x4 = 0 ∨ x4 = 1) (f_t0 : z_tr M t0 7) (f_t1 : t1 = 0 ∨ t1 = 1) (hP : P_X5_putToServer_49 a Post x2 x3 x4 t0 t1 M) : z_V G Y_X5_putToServer z_X0 M0 (z_QM G M0 (z_PV Post)) M 49 [(2, z_O x2), (3, z_O x3), (4, z_I x4)] [z_I t1, z_O t0] := by
  unfold P_X5_putToServer_49 at hP
  obtain ⟨a1, e1, hP⟩ := hP
  have k1 := f_t0 a1 e1
  refine z_putb (c := 6) (k := 9) (g := 777) z_cb6 (Nat.le_of_ble_eq_true rfl) (Nat.le_of_ble_eq_true rfl) (Nat.le_of_ble_eq_true rfl) rfl rfl rfl zw_1088 e1 k1 f_t1 (Or.inl rfl) dX5_putToServer_49 ?_
  refine z_nm (fun M_2 g_2 => ?_)
  replace hP := hP M_2 g_2
  have q_2 := z_k1 g_2
  have ha := z_kk q_2 ha
  have f_x2 := z_trk q_2 f_x2
  have f_x3 := z_trk q_2 f_x3
  refine z_iload dX5_putToServer_52 2 rfl ?_
  refine z_if_ne (tgt := 65) dX5_putToServer_54 (by decide) (fun h3 => ?_) (fun h3 => ?_)
  · replace hP := hP.2 h3
    refine z_iload dX5_putToServer_65 2 rfl ?_
    refine z_if_eq (tgt := 75) dX5_putToServer_67 (by decide) (fun h4 => ?_) (fun h4 => ?_)
    · replace hP := hP.1 h4
      exact z_retv rfl dX5_putToServer_75 hP
    · replace hP := hP.2 h4
      refine z_aload_n dX5_putToServer_70 rfl 1 rfl ?_
      refine z_aload_n dX5_putToServer_71 rfl 0 rfl ?_
      obtain ⟨a6, e6, hP⟩ := hP
      have k6 := f_x3 a6 e6
      refine z_wts (fun hT5 _ => ?_)
      refine z_cVv (c := 3) (n := 1) (Y1 := Y_X3_append) (st := []) e6 k6 z_cb3 (Nat.le_of_ble_eq_true rfl) rfl (s_X3_append k6 f_x2 hP) rfl ⟨z_dc_X3_append, ⟨(Nat.le_of_ble_eq_true rfl), (Nat.le_of_ble_eq_true rfl)⟩, (Nat.le_of_ble_eq_true rfl)⟩ rfl zw_672 zw_673 zw_674 zw_3 zw_675 dX5_putToServer_72 (fun M_5 hP _ x5 => ?_)
      have ha := x5.k (k := 5) hT5 ha
      have f_x2 := x5.t (k := 4) hT5 f_x2
      have k6 := x5.k (k := 3) hT5 k6
      refine z_pc (pc' := 75) rfl ?_
      exact z_retv rfl dX5_putToServer_75 hP
  · replace hP := hP.1 h3
    refine z_aload_n dX5_putToServer_57 rfl 0 rfl ?_
    obtain ⟨a7, e7, hP⟩ := hP
    have k7 := f_x2 a7 e7
    refine z_getr (c := 4) (k := 3) (g := 515) (t := 7) z_cb4 (Nat.le_of_ble_eq_true rfl) (Nat.le_of_ble_eq_true rfl) rfl rfl zw_128 e7 k7 dX5_putToServer_58 (fun f8 => ?_)
    refine z_iconst (v := 3) dX5_putToServer_61 (by decide) ?_
    obtain ⟨a9, e9, hP⟩ := hP
    have k9 := f8 a9 e9
    refine z_puti (c := 6) (k := 11) (g := 779) z_cb6 (Nat.le_of_ble_eq_true rfl) (Nat.le_of_ble_eq_true rfl) (Nat.le_of_ble_eq_true rfl) rfl rfl rfl zw_1094 e9 k9 (Or.inl rfl) dX5_putToServer_62 ?_
    refine z_nm (fun M_10 g_10 => ?_)
    replace hP := hP M_10 g_10
    have q_10 := z_k1 g_10
    have ha := z_kk q_10 ha
    have k7 := z_kk q_10 k7
    have f_x3 := z_trk q_10 f_x3
    refine z_pc (pc' := 65) rfl ?_
    refine z_iload dX5_putToServer_65 2 rfl ?_
    refine z_if_eq (tgt := 75) dX5_putToServer_67 (by decide) (fun h11 => ?_) (fun h11 => ?_)
    · replace hP := hP.1 h11
      exact z_retv rfl dX5_putToServer_75 hP
    · replace hP := hP.2 h11
      refine z_aload_n dX5_putToServer_70 rfl 1 rfl ?_
      refine z_aload_n dX5_putToServer_71 rfl 0 rfl ?_
      obtain ⟨a13, e13, hP⟩ := hP
      have k13 := f_x3 a13 e13
      refine z_wts (fun hT12 _ => ?_)
      refine z_cVv (c := 3) (n := 1) (Y1 := Y_X3_append) (st := []) e13 k13 z_cb3 (Nat.le_of_ble_eq_true rfl) rfl (s_X3_append k13 (z_trn e7 k7) hP) rfl ⟨z_dc_X3_append, ⟨(Nat.le_of_ble_eq_true rfl), (Nat.le_of_ble_eq_true rfl)⟩, (Nat.le_of_ble_eq_true rfl)⟩ rfl zw_672 zw_673 zw_674 zw_3 zw_675 dX5_putToServer_72 (fun M_12 hP _ x12 => ?_)
      have ha := x12.k (k := 5) hT12 ha
      have k7 := x12.k (k := 4) hT12 k7
      have k13 := x12.k (k := 3) hT12 k13
      exact z_retv rfl dX5_putToServer_75 hP
set_option maxRecDepth 100000 in
set_option maxHeartbeats 4000000 in
theorem v_X5_putToServer_48 {G : z_G} {M0 : z_Mem} {a : Nat} {Post : z_Mem → Prop}   {x2 : Option Nat} {x3 : Option Nat} {x4 : Int32} {t0 : Option Nat} {M : z_Mem} (ha : z_ki M a = 6) (f_x2 : z_tr M x2 5) (f_x3 : z_tr M x3 4) (f_x4 : x4 = 0 ∨ x4 = 1) (f_t0 : z_tr M t0 7) (hP : P_X5_putToServer_48 a Post x2 x3 x4 t0 M) : z_V G Y_X5_putToServer z_X0 M0 (z_QM G M0 (z_PV Post)) M 48 [(2, z_O x2), (3, z_O x3), (4, z_I x4)] [z_O t0] := by
  unfold P_X5_putToServer_48 at hP
  refine z_iconst (v := 0) dX5_putToServer_48 (by decide) ?_
  refine z_sub (lv' := [(2, z_O _), (3, z_O _), (4, z_I _)]) [0, 1, 2] rfl ?_
  exact v_X5_putToServer_49  ha f_x2 f_x3 f_x4 f_t0 (Or.inl rfl) hP
set_option maxRecDepth 100000 in
set_option maxHeartbeats 4000000 in
theorem s_X5_putToServer {G : z_G} {M : z_Mem} {a : Nat} {p1 : Int32} {p2 : Option Nat} {Post : z_Mem → Prop} (ha : z_ki M a = 6) (f_p2 : z_tr M p2 5) (hP : P_X5_putToServer a p1 p2 M Post) : z_Mt G Y_X5_putToServer M [z_O (some a), z_I p1, z_O p2] (z_PV Post) := by
  refine z_ofV (by decide) (Nat.le_of_ble_eq_true rfl) ?_
  unfold P_X5_putToServer at hP
  refine z_sub (lv' := [(0, z_O (some a)), (1, z_I p1), (2, z_O p2)]) [0, 1, 2] rfl ?_
  refine z_aload_n dX5_putToServer_0 rfl 0 rfl ?_
  refine z_iload_n dX5_putToServer_1 rfl 1 rfl ?_
  refine z_wts (fun hT14 _ => ?_)
  refine z_cVo (c := 5) (n := 1) (Y1 := Y_X5_laneOf) (st := []) rfl ha z_cb5 (Nat.le_of_ble_eq_true rfl) rfl (s_X5_laneOf ha hP) rfl ⟨z_dc_X5_laneOf, ⟨(Nat.le_of_ble_eq_true rfl), (Nat.le_of_ble_eq_true rfl)⟩, (Nat.le_of_ble_eq_true rfl)⟩ rfl zw_667 zw_632 zw_633 zw_2 zw_634 dX5_putToServer_2 (fun x_14 M_14 f14 hP _ x14 => ?_)
  have ha := x14.k (k := 5) hT14 ha
  have f_p2 := x14.t (k := 4) hT14 f_p2
  refine z_astore_n (lv' := [(3, z_O _), (0, z_O _), (1, z_I _), (2, z_O _)]) dX5_putToServer_5 rfl (Nat.le_of_ble_eq_true rfl) rfl ?_
  refine z_aload_n dX5_putToServer_6 rfl 3 rfl ?_
  refine z_iload_n dX5_putToServer_7 rfl 2 rfl ?_
  refine z_pc (pc' := 8) rfl ?_
  obtain ⟨a15, e15, hP⟩ := hP
  have k15 := f_p2 a15 e15
  refine z_puti (c := 4) (k := 1) (g := 513) z_cb4 (Nat.le_of_ble_eq_true rfl) (Nat.le_of_ble_eq_true rfl) (Nat.le_of_ble_eq_true rfl) rfl rfl rfl zw_124 e15 k15 (Or.inl rfl) dX5_putToServer_8 ?_
  refine z_nm (fun M_16 g_16 => ?_)
  replace hP := hP M_16 g_16
  have q_16 := z_k1 g_16
  have ha := z_kk q_16 ha
  have f14 := z_trk q_16 f14
  have k15 := z_kk q_16 k15
  refine z_aload_n dX5_putToServer_11 rfl 0 rfl ?_
  obtain ⟨a18, e18, hP⟩ := hP
  have k18 := f14 a18 e18
  refine z_wts (fun hT17 _ => ?_)
  refine z_cVb (c := 3) (n := 0) (Y1 := Y_X3_letsToServer) (st := []) e18 k18 z_cb3 (Nat.le_of_ble_eq_true rfl) rfl (s_X3_letsToServer k18 hP) rfl ⟨z_dc_X3_letsToServer, ⟨(Nat.le_of_ble_eq_true rfl), (Nat.le_of_ble_eq_true rfl)⟩, (Nat.le_of_ble_eq_true rfl)⟩ rfl zw_798 zw_799 zw_800 zw_3 zw_801 dX5_putToServer_12 (fun x_17 M_17 b17 hP _ x17 => ?_)
  have ha := x17.k (k := 5) hT17 ha
  have k18 := x17.k (k := 3) hT17 k18
  have k15 := x17.k (k := 4) hT17 k15
  refine z_istore (lv' := [(4, z_I _), (3, z_O _), (0, z_O _), (1, z_I _), (2, z_O _)]) dX5_putToServer_15 (Nat.le_of_ble_eq_true rfl) rfl ?_
  refine z_aload_n dX5_putToServer_17 rfl 4 rfl ?_
  refine z_getr (c := 4) (k := 3) (g := 515) (t := 7) z_cb4 (Nat.le_of_ble_eq_true rfl) (Nat.le_of_ble_eq_true rfl) rfl rfl zw_128 e15 k15 dX5_putToServer_18 (fun f19 => ?_)
  refine z_pc (pc' := 21) rfl ?_
  refine z_ifnull (tgt := 65) dX5_putToServer_21 (by decide) (fun h20 => ?_) (fun a20 e20 => ?_)
  · replace hP := hP.1 h20
    refine z_iload dX5_putToServer_65 0 rfl ?_
    refine z_if_eq (tgt := 75) dX5_putToServer_67 (by decide) (fun h21 => ?_) (fun h21 => ?_)
    · replace hP := hP.1 h21
      exact z_retv rfl dX5_putToServer_75 hP
    · replace hP := hP.2 h21
      refine z_aload_n dX5_putToServer_70 rfl 1 rfl ?_
      refine z_aload_n dX5_putToServer_71 rfl 4 rfl ?_
      refine z_wts (fun hT22 _ => ?_)
      refine z_cVv (c := 3) (n := 1) (Y1 := Y_X3_append) (st := []) e18 k18 z_cb3 (Nat.le_of_ble_eq_true rfl) rfl (s_X3_append k18 (z_trn e15 k15) hP) rfl ⟨z_dc_X3_append, ⟨(Nat.le_of_ble_eq_true rfl), (Nat.le_of_ble_eq_true rfl)⟩, (Nat.le_of_ble_eq_true rfl)⟩ rfl zw_672 zw_673 zw_674 zw_3 zw_675 dX5_putToServer_72 (fun M_22 hP _ x22 => ?_)
      have ha := x22.k (k := 5) hT22 ha
      have k18 := x22.k (k := 3) hT22 k18
      have k15 := x22.k (k := 4) hT22 k15
      exact z_retv rfl dX5_putToServer_75 hP
  · replace hP := hP.2 a20 e20
    have k20 := f19 a20 e20
    refine z_aload_n dX5_putToServer_24 rfl 4 rfl ?_
    refine z_getr (c := 4) (k := 3) (g := 515) (t := 7) z_cb4 (Nat.le_of_ble_eq_true rfl) (Nat.le_of_ble_eq_true rfl) rfl rfl zw_128 e15 k15 dX5_putToServer_25 (fun f23 => ?_)
    refine z_iload dX5_putToServer_28 0 rfl ?_
    refine z_if_eq (tgt := 48) dX5_putToServer_30 (by decide) (fun h24 => ?_) (fun h24 => ?_)
    · replace hP := hP.1 h24
      refine z_sub (lv' := [(2, z_O _), (3, z_O _), (4, z_I _)]) [4, 1, 0] rfl ?_
      exact v_X5_putToServer_48  ha (z_trn e15 k15) (z_trn e18 k18) b17 f23 hP
    · replace hP := hP.2 h24
      refine z_aload_n dX5_putToServer_33 rfl 1 rfl ?_
      refine z_geti (c := 3) (k := 11) (g := 395) z_cb3 (Nat.le_of_ble_eq_true rfl) (Nat.le_of_ble_eq_true rfl) rfl (Nat.le_of_ble_eq_true rfl) zw_67 e18 k18 dX5_putToServer_34 ?_
      refine z_aload_n dX5_putToServer_37 rfl 1 rfl ?_
      refine z_pc (pc' := 38) rfl ?_
      refine z_geti (c := 3) (k := 3) (g := 387) z_cb3 (Nat.le_of_ble_eq_true rfl) (Nat.le_of_ble_eq_true rfl) rfl (Nat.le_of_ble_eq_true rfl) zw_54 e18 k18 dX5_putToServer_38 ?_
      refine z_icmp_lt (tgt := 48) dX5_putToServer_41 (by decide) (fun h27 => ?_) (fun h27 => ?_)
      · replace hP := hP.1 h27
        refine z_sub (lv' := [(2, z_O _), (3, z_O _), (4, z_I _)]) [4, 1, 0] rfl ?_
        exact v_X5_putToServer_48  ha (z_trn e15 k15) (z_trn e18 k18) b17 f23 hP
      · replace hP := hP.2 h27
        refine z_iconst (v := 1) dX5_putToServer_44 (by decide) ?_
        refine z_goto (tgt := 49) dX5_putToServer_45 (by decide) ?_
        refine z_sub (lv' := [(2, z_O _), (3, z_O _), (4, z_I _)]) [4, 1, 0] rfl ?_
        exact v_X5_putToServer_49  ha (z_trn e15 k15) (z_trn e18 k18) b17 f23 (Or.inr rfl) hP
set_option maxRecDepth 100000 in
def P_X1_sayHello (a : Nat) (M : z_Mem) (Post : z_Mem → Prop) : Prop := ∀ M_2 : z_Mem, M_2 = z_sfi M 138 a ((z_fi M 138 a) + 1) → (z_nn (z_fr M_2 128 a) fun a4 => (∀ M_6 : z_Mem, M_6 = z_sfi M_2 139 a (z_fi M_2 645 a4) → (z_room M_6 8 ∧ (∀ M_8 : z_Mem, M_8 = z_new M_6 5 8 → (P_X4_init (z_sz M_6) 0 M_8 fun M_9 => (∀ M_11 : z_Mem, M_11 = z_sfi M_9 517 (z_sz M_6) (z_fi M_9 136 a) → (∀ M_13 : z_Mem, M_13 = z_sfi M_11 518 (z_sz M_6) (z_fi M_11 137 a) → (z_nn (z_fr M_13 128 a) fun a16 => (P_X5_putToServer a16 0 (some (z_sz M_6)) M_13 fun M_15 => (Post M_15))))))))))
set_option maxRecDepth 100000 in
set_option maxHeartbeats 4000000 in
theorem s_X1_sayHello {G : z_G} {M : z_Mem} {a : Nat} {Post : z_Mem → Prop} (ha : z_ki M a = 2) (hP : P_X1_sayHello a M Post) : z_Mt G Y_X1_sayHello M [z_O (some a)] (z_PV Post) := by
  refine z_ofV (by decide) (Nat.le_of_ble_eq_true rfl) ?_
  unfold P_X1_sayHello at hP
  refine z_sub (lv' := [(0, z_O (some a))]) [0] rfl ?_
  refine z_aload_n dX1_sayHello_0 rfl 0 rfl ?_
  refine z_dup dX1_sayHello_1 rfl ?_
  refine z_geti (c := 1) (k := 10) (g := 138) z_cb1 (Nat.le_of_ble_eq_true rfl) (Nat.le_of_ble_eq_true rfl) rfl (Nat.le_of_ble_eq_true rfl) zw_437 rfl ha dX1_sayHello_2 ?_
  refine z_iconst (v := 1) dX1_sayHello_5 (by decide) ?_
  refine z_iadd dX1_sayHello_6 ?_
  refine z_puti (c := 1) (k := 10) (g := 138) z_cb1 (Nat.le_of_ble_eq_true rfl) (Nat.le_of_ble_eq_true rfl) (Nat.le_of_ble_eq_true rfl) rfl rfl rfl zw_437 rfl ha (Or.inl rfl) dX1_sayHello_7 ?_
  refine z_nm (fun M_2 g_2 => ?_)
  replace hP := hP M_2 g_2
  have q_2 := z_k1 g_2
  have ha := z_kk q_2 ha
  refine z_pc (pc' := 10) rfl ?_
  refine z_aload_n dX1_sayHello_10 rfl 0 rfl ?_
  refine z_aload_n dX1_sayHello_11 rfl 0 rfl ?_
  refine z_getr (c := 1) (k := 0) (g := 128) (t := 6) z_cb1 (Nat.le_of_ble_eq_true rfl) (Nat.le_of_ble_eq_true rfl) rfl rfl zw_425 rfl ha dX1_sayHello_12 (fun f3 => ?_)
  obtain ⟨a4, e4, hP⟩ := hP
  have k4 := f3 a4 e4
  refine z_geti (c := 5) (k := 5) (g := 645) z_cb5 (Nat.le_of_ble_eq_true rfl) (Nat.le_of_ble_eq_true rfl) rfl (Nat.le_of_ble_eq_true rfl) zw_166 e4 k4 dX1_sayHello_15 ?_
  refine z_puti (c := 1) (k := 11) (g := 139) z_cb1 (Nat.le_of_ble_eq_true rfl) (Nat.le_of_ble_eq_true rfl) (Nat.le_of_ble_eq_true rfl) rfl rfl rfl zw_439 rfl ha (Or.inl rfl) dX1_sayHello_18 ?_
  refine z_nm (fun M_6 g_6 => ?_)
  replace hP := hP M_6 g_6
  have q_6 := z_k1 g_6
  have ha := z_kk q_6 ha
  obtain ⟨r7, hP⟩ := hP
  refine z_wts (fun hT7 _ => ?_)
  refine z_newo (c := 4) z_cb4 (Nat.le_of_ble_eq_true rfl) rfl z_df4 zw_792 zw_115 zw_6 r7 dX1_sayHello_21 (fun x7 k7 => ?_)
  refine z_nm (fun M_8 g_8 => ?_)
  replace hP := hP M_8 g_8
  have x7 := z_xe g_8 x7
  have k7 := z_xk g_8 k7
  have ha := x7.k (k := 1) hT7 ha
  refine z_pc (pc' := 24) rfl ?_
  refine z_dup dX1_sayHello_24 rfl ?_
  refine z_iconst (v := 0) dX1_sayHello_25 (by decide) ?_
  refine z_wts (fun hT9 _ => ?_)
  refine z_cIv (n := 1) (Y1 := Y_X4_init) (st := [z_O _]) rfl (s_X4_init k7 hP) rfl rfl rfl ⟨z_dc_X4_init, ⟨(Nat.le_of_ble_eq_true rfl), (Nat.le_of_ble_eq_true rfl)⟩, (Nat.le_of_ble_eq_true rfl)⟩ rfl zw_793 zw_117 zw_6 zw_118 dX1_sayHello_26 (fun M_9 hP _ x9 => ?_)
  have ha := x9.k (k := 1) hT9 ha
  have k7 := x9.k (k := 4) hT9 k7
  refine z_astore_n (lv' := [(1, z_O _), (0, z_O _)]) dX1_sayHello_29 rfl (Nat.le_of_ble_eq_true rfl) rfl ?_
  refine z_aload_n dX1_sayHello_30 rfl 0 rfl ?_
  refine z_aload_n dX1_sayHello_31 rfl 1 rfl ?_
  refine z_pc (pc' := 32) rfl ?_
  refine z_geti (c := 1) (k := 8) (g := 136) z_cb1 (Nat.le_of_ble_eq_true rfl) (Nat.le_of_ble_eq_true rfl) rfl (Nat.le_of_ble_eq_true rfl) zw_435 rfl ha dX1_sayHello_32 ?_
  refine z_puti (c := 4) (k := 5) (g := 517) z_cb4 (Nat.le_of_ble_eq_true rfl) (Nat.le_of_ble_eq_true rfl) (Nat.le_of_ble_eq_true rfl) rfl rfl rfl zw_134 rfl k7 (Or.inl rfl) dX1_sayHello_35 ?_
  refine z_nm (fun M_11 g_11 => ?_)
  replace hP := hP M_11 g_11
  have q_11 := z_k1 g_11
  have ha := z_kk q_11 ha
  have k7 := z_kk q_11 k7
  refine z_aload_n dX1_sayHello_38 rfl 0 rfl ?_
  refine z_aload_n dX1_sayHello_39 rfl 1 rfl ?_
  refine z_getb (c := 1) (k := 9) (g := 137) z_cb1 (Nat.le_of_ble_eq_true rfl) (Nat.le_of_ble_eq_true rfl) rfl rfl zw_436 rfl ha dX1_sayHello_40 (fun b12 => ?_)
  refine z_putb (c := 4) (k := 6) (g := 518) z_cb4 (Nat.le_of_ble_eq_true rfl) (Nat.le_of_ble_eq_true rfl) (Nat.le_of_ble_eq_true rfl) rfl rfl rfl zw_136 rfl k7 b12 (Or.inl rfl) dX1_sayHello_43 ?_
  refine z_nm (fun M_13 g_13 => ?_)
  replace hP := hP M_13 g_13
  have q_13 := z_k1 g_13
  have ha := z_kk q_13 ha
  have k7 := z_kk q_13 k7
  refine z_pc (pc' := 46) rfl ?_
  refine z_aload_n dX1_sayHello_46 rfl 1 rfl ?_
  refine z_getr (c := 1) (k := 0) (g := 128) (t := 6) z_cb1 (Nat.le_of_ble_eq_true rfl) (Nat.le_of_ble_eq_true rfl) rfl rfl zw_425 rfl ha dX1_sayHello_47 (fun f14 => ?_)
  refine z_iconst (v := 0) dX1_sayHello_50 (by decide) ?_
  refine z_aload_n dX1_sayHello_51 rfl 0 rfl ?_
  obtain ⟨a16, e16, hP⟩ := hP
  have k16 := f14 a16 e16
  refine z_wts (fun hT15 _ => ?_)
  refine z_cVv (c := 5) (n := 2) (Y1 := Y_X5_putToServer) (st := []) e16 k16 z_cb5 (Nat.le_of_ble_eq_true rfl) rfl (s_X5_putToServer k16 (z_trn rfl k7) hP) rfl ⟨z_dc_X5_putToServer, ⟨(Nat.le_of_ble_eq_true rfl), (Nat.le_of_ble_eq_true rfl)⟩, (Nat.le_of_ble_eq_true rfl)⟩ rfl zw_794 zw_795 zw_796 zw_2 zw_797 dX1_sayHello_52 (fun M_15 hP _ x15 => ?_)
  have ha := x15.k (k := 1) hT15 ha
  have k7 := x15.k (k := 4) hT15 k7
  exact z_retv rfl dX1_sayHello_55 hP
set_option maxRecDepth 100000 in
def P_X1_beginHello (a : Nat) (p1 : Int32) (M : z_Mem) (Post : z_Mem → Prop) : Prop := ∀ M_1 : z_Mem, M_1 = z_sfi M 135 a 1 → (∀ M_2 : z_Mem, M_2 = z_sfi M_1 136 a p1 → (P_X1_sayHello a M_2 fun M_3 => (Post M_3)))
set_option maxRecDepth 100000 in
set_option maxHeartbeats 4000000 in
theorem s_X1_beginHello {G : z_G} {M : z_Mem} {a : Nat} {p1 : Int32} {Post : z_Mem → Prop} (ha : z_ki M a = 2) (hP : P_X1_beginHello a p1 M Post) : z_Mt G Y_X1_beginHello M [z_O (some a), z_I p1] (z_PV Post) := by
  refine z_ofV (by decide) (Nat.le_of_ble_eq_true rfl) ?_
  unfold P_X1_beginHello at hP
  refine z_sub (lv' := [(0, z_O (some a)), (1, z_I p1)]) [0, 1] rfl ?_
  refine z_aload_n dX1_beginHello_0 rfl 0 rfl ?_
  refine z_iconst (v := 1) dX1_beginHello_1 (by decide) ?_
  refine z_puti (c := 1) (k := 7) (g := 135) z_cb1 (Nat.le_of_ble_eq_true rfl) (Nat.le_of_ble_eq_true rfl) (Nat.le_of_ble_eq_true rfl) rfl rfl rfl zw_433 rfl ha (Or.inl rfl) dX1_beginHello_2 ?_
  refine z_nm (fun M_1 g_1 => ?_)
  replace hP := hP M_1 g_1
  have q_1 := z_k1 g_1
  have ha := z_kk q_1 ha
  refine z_aload_n dX1_beginHello_5 rfl 0 rfl ?_
  refine z_iload_n dX1_beginHello_6 rfl 1 rfl ?_
  refine z_puti (c := 1) (k := 8) (g := 136) z_cb1 (Nat.le_of_ble_eq_true rfl) (Nat.le_of_ble_eq_true rfl) (Nat.le_of_ble_eq_true rfl) rfl rfl rfl zw_435 rfl ha (Or.inl rfl) dX1_beginHello_7 ?_
  refine z_nm (fun M_2 g_2 => ?_)
  replace hP := hP M_2 g_2
  have q_2 := z_k1 g_2
  have ha := z_kk q_2 ha
  refine z_pc (pc' := 10) rfl ?_
  refine z_aload_n dX1_beginHello_10 rfl 0 rfl ?_
  refine z_wts (fun hT3 _ => ?_)
  refine z_cVv (c := 1) (n := 0) (Y1 := Y_X1_sayHello) (st := []) rfl ha z_cb1 (Nat.le_of_ble_eq_true rfl) rfl (s_X1_sayHello ha hP) rfl ⟨z_dc_X1_sayHello, ⟨(Nat.le_of_ble_eq_true rfl), (Nat.le_of_ble_eq_true rfl)⟩, (Nat.le_of_ble_eq_true rfl)⟩ rfl zw_788 zw_790 zp_4 zw_9 zw_791 dX1_beginHello_11 (fun M_3 hP _ x3 => ?_)
  have ha := x3.k (k := 1) hT3 ha
  exact z_retv rfl dX1_beginHello_14 hP
set_option maxRecDepth 100000 in
def P_X1_isAcknowledged (p1 : Option Nat) (M : z_Mem) (Post : Int32 → z_Mem → Prop) : Prop := z_nn p1 fun a1 => ((((z_fi M 778 a1) = 1 → Post 1 M) ∧ (¬ (z_fi M 778 a1) = 1 → (((z_fi M 778 a1) = 3 → Post 1 M) ∧ (¬ (z_fi M 778 a1) = 3 → Post 0 M)))))
set_option maxRecDepth 100000 in
set_option maxHeartbeats 4000000 in
theorem s_X1_isAcknowledged {G : z_G} {M : z_Mem} {p1 : Option Nat} {Post : Int32 → z_Mem → Prop} (f_p1 : z_tr M p1 7) (hP : P_X1_isAcknowledged p1 M Post) : z_Mt G Y_X1_isAcknowledged M [z_O p1] (z_PB Post) := by
  refine z_ofV (by decide) (Nat.le_of_ble_eq_true rfl) ?_
  unfold P_X1_isAcknowledged at hP
  refine z_sub (lv' := [(0, z_O p1)]) [0] rfl ?_
  refine z_aload_n dX1_isAcknowledged_0 rfl 0 rfl ?_
  obtain ⟨a1, e1, hP⟩ := hP
  have k1 := f_p1 a1 e1
  refine z_geti (c := 6) (k := 10) (g := 778) z_cb6 (Nat.le_of_ble_eq_true rfl) (Nat.le_of_ble_eq_true rfl) rfl (Nat.le_of_ble_eq_true rfl) zw_1092 e1 k1 dX1_isAcknowledged_1 ?_
  refine z_iconst (v := 1) dX1_isAcknowledged_4 (by decide) ?_
  refine z_icmp_eq (tgt := 16) dX1_isAcknowledged_5 (by decide) (fun h3 => ?_) (fun h3 => ?_)
  · replace hP := hP.1 h3
    refine z_iconst (v := 1) dX1_isAcknowledged_16 (by decide) ?_
    refine z_goto (tgt := 21) dX1_isAcknowledged_17 (by decide) ?_
    exact z_retb rfl (Or.inr rfl) dX1_isAcknowledged_21 hP
  · replace hP := hP.2 h3
    refine z_aload_n dX1_isAcknowledged_8 rfl 0 rfl ?_
    refine z_geti (c := 6) (k := 10) (g := 778) z_cb6 (Nat.le_of_ble_eq_true rfl) (Nat.le_of_ble_eq_true rfl) rfl (Nat.le_of_ble_eq_true rfl) zw_1092 e1 k1 dX1_isAcknowledged_9 ?_
    refine z_iconst (v := 3) dX1_isAcknowledged_12 (by decide) ?_
    refine z_pc (pc' := 13) rfl ?_
    refine z_icmp_ne (tgt := 20) dX1_isAcknowledged_13 (by decide) (fun h5 => ?_) (fun h5 => ?_)
    · replace hP := hP.2 h5
      refine z_iconst (v := 0) dX1_isAcknowledged_20 (by decide) ?_
      exact z_retb rfl (Or.inl rfl) dX1_isAcknowledged_21 hP
    · replace hP := hP.1 h5
      refine z_iconst (v := 1) dX1_isAcknowledged_16 (by decide) ?_
      refine z_goto (tgt := 21) dX1_isAcknowledged_17 (by decide) ?_
      exact z_retb rfl (Or.inr rfl) dX1_isAcknowledged_21 hP
def P_X1_canChangeKey_42 (a : Nat) (Post : Int32 → z_Mem → Prop) (J4 : Int32 → Int32 → z_Mem → Prop) (x1 : Int32) (x2 : Int32) (M : z_Mem) : Prop := ∀ x_1 : Int32, x_1 = x2 + 1 → (J4 x1 x_1 M)
set_option maxRecDepth 100000 in
def P_X1_canChangeKey_4 (a : Nat) (Post : Int32 → z_Mem → Prop)  : Nat → Int32 → Int32 → z_Mem → Prop
  | 0, _, _, _ => False
  | n + 1, x1, x2, M => (((z_fi M 133 a) ≤ x2 → (((z_fi M 135 a) = 2 → ((x1 = 0 → Post 0 M) ∧ (¬ x1 = 0 → Post 1 M))) ∧ (¬ (z_fi M 135 a) = 2 → Post 0 M))) ∧ (¬ (z_fi M 133 a) ≤ x2 → P_X1_packetAt a x2 M fun x_7 M_7 => (((x_7 = none → P_X1_canChangeKey_42 a Post (fun q0 q1 qM => P_X1_canChangeKey_4 a Post n q0 q1 qM) x1 x2 M_7) ∧ (∀ a8 : Nat, x_7 = some a8 → (((z_fi M_7 774 a8) = (z_fi M_7 142 a) → P_X1_isAcknowledged x_7 M_7 fun x_12 M_12 => (((x_12 = 0 → P_X1_canChangeKey_42 a Post (fun q0 q1 qM => P_X1_canChangeKey_4 a Post n q0 q1 qM) x1 x2 M_12) ∧ (¬ x_12 = 0 → P_X1_canChangeKey_42 a Post (fun q0 q1 qM => P_X1_canChangeKey_4 a Post n q0 q1 qM) 1 x2 M_12)))) ∧ (¬ (z_fi M_7 774 a8) = (z_fi M_7 142 a) → P_X1_canChangeKey_42 a Post (fun q0 q1 qM => P_X1_canChangeKey_4 a Post n q0 q1 qM) x1 x2 M_7)))))))
set_option maxRecDepth 100000 in
def P_X1_canChangeKey (a : Nat) (M : z_Mem) (Post : Int32 → z_Mem → Prop) : Prop := (∃ n14 : Nat, P_X1_canChangeKey_4 a Post n14 0 0 M)
set_option maxRecDepth 100000 in
set_option maxHeartbeats 4000000 in
theorem v_X1_canChangeKey_42 {G : z_G} {M0 : z_Mem} {a : Nat} {Post : Int32 → z_Mem → Prop} {J4 : Int32 → Int32 → z_Mem → Prop} (hJ4 : ∀ (x1 : Int32) (x2 : Int32) (M : z_Mem), (z_ki M a = 2) → (x1 = 0 ∨ x1 = 1) → J4 x1 x2 M → z_V G Y_X1_canChangeKey z_X0 M0 (z_QM G M0 (z_PB Post)) M 4 [(0, z_O (some a)), (1, z_I x1), (2, z_I x2)] []) {x1 : Int32} {x2 : Int32} {M : z_Mem} (ha : z_ki M a = 2) (f_x1 : x1 = 0 ∨ x1 = 1) (hP : P_X1_canChangeKey_42 a Post J4 x1 x2 M) : z_V G Y_X1_canChangeKey z_X0 M0 (z_QM G M0 (z_PB Post)) M 42 [(0, z_O (some a)), (1, z_I x1), (2, z_I x2)] [] := by
  unfold P_X1_canChangeKey_42 at hP
  refine z_iincN (j := 2) (m := 1) (lv' := fun v => [(2, z_I v), (0, z_O _), (1, z_I _)]) dX1_canChangeKey_42 rfl (by decide) (Nat.le_of_ble_eq_true rfl) (fun _ => rfl) (fun x_1 y_1 => ?_)
  replace hP := hP x_1 y_1
  refine z_goto (tgt := 4) dX1_canChangeKey_45 (by decide) ?_
  refine z_sub (lv' := [(0, z_O _), (1, z_I _), (2, z_I _)]) [1, 2, 0] rfl ?_
  exact hJ4 _ _ _ ha f_x1 hP
set_option maxRecDepth 100000 in
set_option maxHeartbeats 4000000 in
theorem v_X1_canChangeKey_4 {G : z_G} {M0 : z_Mem} {a : Nat} {Post : Int32 → z_Mem → Prop}   : ∀ (n : Nat) {x1 : Int32} {x2 : Int32} {M : z_Mem}, (z_ki M a = 2) → (x1 = 0 ∨ x1 = 1) → P_X1_canChangeKey_4 a Post n x1 x2 M → z_V G Y_X1_canChangeKey z_X0 M0 (z_QM G M0 (z_PB Post)) M 4 [(0, z_O (some a)), (1, z_I x1), (2, z_I x2)] [] := by
  intro n
  induction n with
  | zero => intro x1 x2 M ha f_x1 hP; exact False.elim hP
  | succ n ih =>
    intro x1 x2 M ha f_x1 hP
    unfold P_X1_canChangeKey_4 at hP
    refine z_iload_n dX1_canChangeKey_4 rfl 2 rfl ?_
    refine z_aload_n dX1_canChangeKey_5 rfl 0 rfl ?_
    refine z_geti (c := 1) (k := 5) (g := 133) z_cb1 (Nat.le_of_ble_eq_true rfl) (Nat.le_of_ble_eq_true rfl) rfl (Nat.le_of_ble_eq_true rfl) zw_430 rfl ha dX1_canChangeKey_6 ?_
    refine z_icmp_ge (tgt := 48) dX1_canChangeKey_9 (by decide) (fun h3 => ?_) (fun h3 => ?_)
    · replace hP := hP.1 h3
      refine z_aload_n dX1_canChangeKey_48 rfl 0 rfl ?_
      refine z_geti (c := 1) (k := 7) (g := 135) z_cb1 (Nat.le_of_ble_eq_true rfl) (Nat.le_of_ble_eq_true rfl) rfl (Nat.le_of_ble_eq_true rfl) zw_433 rfl ha dX1_canChangeKey_49 ?_
      refine z_iconst (v := 2) dX1_canChangeKey_52 (by decide) ?_
      refine z_pc (pc' := 53) rfl ?_
      refine z_icmp_ne (tgt := 64) dX1_canChangeKey_53 (by decide) (fun h5 => ?_) (fun h5 => ?_)
      · replace hP := hP.2 h5
        refine z_iconst (v := 0) dX1_canChangeKey_64 (by decide) ?_
        exact z_retb rfl (Or.inl rfl) dX1_canChangeKey_65 hP
      · replace hP := hP.1 h5
        refine z_iload_n dX1_canChangeKey_56 rfl 1 rfl ?_
        refine z_if_eq (tgt := 64) dX1_canChangeKey_57 (by decide) (fun h6 => ?_) (fun h6 => ?_)
        · replace hP := hP.1 h6
          refine z_iconst (v := 0) dX1_canChangeKey_64 (by decide) ?_
          exact z_retb rfl (Or.inl rfl) dX1_canChangeKey_65 hP
        · replace hP := hP.2 h6
          refine z_iconst (v := 1) dX1_canChangeKey_60 (by decide) ?_
          refine z_goto (tgt := 65) dX1_canChangeKey_61 (by decide) ?_
          exact z_retb rfl (Or.inr rfl) dX1_canChangeKey_65 hP
    · replace hP := hP.2 h3
      refine z_aload_n dX1_canChangeKey_12 rfl 0 rfl ?_
      refine z_iload_n dX1_canChangeKey_13 rfl 2 rfl ?_
      refine z_wts (fun hT7 _ => ?_)
      refine z_cVo (c := 1) (n := 1) (Y1 := Y_X1_packetAt) (st := []) rfl ha z_cb1 (Nat.le_of_ble_eq_true rfl) rfl (s_X1_packetAt ha hP) rfl ⟨z_dc_X1_packetAt, ⟨(Nat.le_of_ble_eq_true rfl), (Nat.le_of_ble_eq_true rfl)⟩, (Nat.le_of_ble_eq_true rfl)⟩ rfl zw_849 zw_850 zw_851 zw_9 zw_852 dX1_canChangeKey_14 (fun x_7 M_7 f7 hP _ x7 => ?_)
      have ha := x7.k (k := 1) hT7 ha
      refine z_pc (pc' := 17) rfl ?_
      refine z_astore_n (lv' := [(3, z_O _), (0, z_O _), (1, z_I _), (2, z_I _)]) dX1_canChangeKey_17 rfl (Nat.le_of_ble_eq_true rfl) rfl ?_
      refine z_aload_n dX1_canChangeKey_18 rfl 0 rfl ?_
      refine z_ifnull (tgt := 42) dX1_canChangeKey_19 (by decide) (fun h8 => ?_) (fun a8 e8 => ?_)
      · replace hP := hP.1 h8
        refine z_sub (lv' := [(0, z_O _), (1, z_I _), (2, z_I _)]) [1, 2, 3] rfl ?_
        exact v_X1_canChangeKey_42 (fun _ _ _ w0 w1 hP => ih w0 w1 hP) ha f_x1 hP
      · replace hP := hP.2 a8 e8
        have k8 := f7 a8 e8
        refine z_aload_n dX1_canChangeKey_22 rfl 0 rfl ?_
        refine z_geti (c := 6) (k := 6) (g := 774) z_cb6 (Nat.le_of_ble_eq_true rfl) (Nat.le_of_ble_eq_true rfl) rfl (Nat.le_of_ble_eq_true rfl) zw_1079 e8 k8 dX1_canChangeKey_23 ?_
        refine z_aload_n dX1_canChangeKey_26 rfl 1 rfl ?_
        refine z_geti (c := 1) (k := 14) (g := 142) z_cb1 (Nat.le_of_ble_eq_true rfl) (Nat.le_of_ble_eq_true rfl) rfl (Nat.le_of_ble_eq_true rfl) zw_442 rfl ha dX1_canChangeKey_27 ?_
        refine z_pc (pc' := 30) rfl ?_
        refine z_icmp_ne (tgt := 42) dX1_canChangeKey_30 (by decide) (fun h11 => ?_) (fun h11 => ?_)
        · replace hP := hP.2 h11
          refine z_sub (lv' := [(0, z_O _), (1, z_I _), (2, z_I _)]) [1, 2, 3] rfl ?_
          exact v_X1_canChangeKey_42 (fun _ _ _ w0 w1 hP => ih w0 w1 hP) ha f_x1 hP
        · replace hP := hP.1 h11
          refine z_aload_n dX1_canChangeKey_33 rfl 0 rfl ?_
          refine z_wts (fun hT12 _ => ?_)
          refine z_cSb (n := 1) (Y1 := Y_X1_isAcknowledged) (st := []) rfl (s_X1_isAcknowledged (z_trn e8 k8) hP) rfl ⟨z_dc_X1_isAcknowledged, ⟨(Nat.le_of_ble_eq_true rfl), (Nat.le_of_ble_eq_true rfl)⟩, (Nat.le_of_ble_eq_true rfl)⟩ rfl zw_853 zw_854 zw_9 zw_855 dX1_canChangeKey_34 (fun x_12 M_12 b12 hP _ x12 => ?_)
          have ha := x12.k (k := 1) hT12 ha
          have k8 := x12.k (k := 6) hT12 k8
          refine z_if_eq (tgt := 42) dX1_canChangeKey_37 (by decide) (fun h13 => ?_) (fun h13 => ?_)
          · replace hP := hP.1 h13
            refine z_sub (lv' := [(0, z_O _), (1, z_I _), (2, z_I _)]) [1, 2, 3] rfl ?_
            exact v_X1_canChangeKey_42 (fun _ _ _ w0 w1 hP => ih w0 w1 hP) ha f_x1 hP
          · replace hP := hP.2 h13
            refine z_iconst (v := 1) dX1_canChangeKey_40 (by decide) ?_
            refine z_istore_n (lv' := [(1, z_I _), (3, z_O _), (0, z_O _), (2, z_I _)]) dX1_canChangeKey_41 rfl (Nat.le_of_ble_eq_true rfl) rfl ?_
            refine z_sub (lv' := [(0, z_O _), (1, z_I _), (2, z_I _)]) [2, 0, 3] rfl ?_
            exact v_X1_canChangeKey_42 (fun _ _ _ w0 w1 hP => ih w0 w1 hP) ha (Or.inr rfl) hP
set_option maxRecDepth 100000 in
set_option maxHeartbeats 4000000 in
theorem s_X1_canChangeKey {G : z_G} {M : z_Mem} {a : Nat} {Post : Int32 → z_Mem → Prop} (ha : z_ki M a = 2) (hP : P_X1_canChangeKey a M Post) : z_Mt G Y_X1_canChangeKey M [z_O (some a)] (z_PB Post) := by
  refine z_ofV (by decide) (Nat.le_of_ble_eq_true rfl) ?_
  unfold P_X1_canChangeKey at hP
  refine z_sub (lv' := [(0, z_O (some a))]) [0] rfl ?_
  refine z_iconst (v := 0) dX1_canChangeKey_0 (by decide) ?_
  refine z_istore_n (lv' := [(1, z_I _), (0, z_O _)]) dX1_canChangeKey_1 rfl (Nat.le_of_ble_eq_true rfl) rfl ?_
  refine z_iconst (v := 0) dX1_canChangeKey_2 (by decide) ?_
  refine z_istore_n (lv' := [(2, z_I _), (1, z_I _), (0, z_O _)]) dX1_canChangeKey_3 rfl (Nat.le_of_ble_eq_true rfl) rfl ?_
  obtain ⟨n14, hP⟩ := hP
  refine z_sub (lv' := [(0, z_O _), (1, z_I _), (2, z_I _)]) [2, 1, 0] rfl ?_
  exact v_X1_canChangeKey_4  n14 ha (Or.inl rfl) hP
set_option maxRecDepth 100000 in
def P_X1_beginClosing (a : Nat) (M : z_Mem) (Post : z_Mem → Prop) : Prop := ∀ M_1 : z_Mem, M_1 = z_sfi M 135 a 3 → (z_nn (z_fr M_1 128 a) fun a3 => (∀ M_5 : z_Mem, M_5 = z_sfi M_1 141 a ((z_fi M_1 645 a3) + 30) → ((((z_fi M_5 143 a) = 1 → z_room M_5 8 ∧ (∀ M_15 : z_Mem, M_15 = z_new M_5 5 8 → (P_X4_init (z_sz M_5) 7 M_15 fun M_16 => (z_nn (z_fr M_5 128 a) fun a18 => (P_X5_putToServer a18 1 (some (z_sz M_5)) M_16 fun M_17 => (Post M_17)))))) ∧ (¬ (z_fi M_5 143 a) = 1 → z_room M_5 8 ∧ (∀ M_10 : z_Mem, M_10 = z_new M_5 5 8 → (P_X4_init (z_sz M_5) 7 M_10 fun M_11 => (z_nn (z_fr M_5 128 a) fun a13 => (P_X5_putToServer a13 0 (some (z_sz M_5)) M_11 fun M_12 => (Post M_12))))))))))
set_option maxRecDepth 100000 in
set_option maxHeartbeats 4000000 in
theorem s_X1_beginClosing {G : z_G} {M : z_Mem} {a : Nat} {Post : z_Mem → Prop} (ha : z_ki M a = 2) (hP : P_X1_beginClosing a M Post) : z_Mt G Y_X1_beginClosing M [z_O (some a)] (z_PV Post) := by
  refine z_ofV (by decide) (Nat.le_of_ble_eq_true rfl) ?_
  unfold P_X1_beginClosing at hP
  refine z_sub (lv' := [(0, z_O (some a))]) [0] rfl ?_
  refine z_aload_n dX1_beginClosing_0 rfl 0 rfl ?_
  refine z_iconst (v := 3) dX1_beginClosing_1 (by decide) ?_
  refine z_puti (c := 1) (k := 7) (g := 135) z_cb1 (Nat.le_of_ble_eq_true rfl) (Nat.le_of_ble_eq_true rfl) (Nat.le_of_ble_eq_true rfl) rfl rfl rfl zw_433 rfl ha (Or.inl rfl) dX1_beginClosing_2 ?_
  refine z_nm (fun M_1 g_1 => ?_)
  replace hP := hP M_1 g_1
  have q_1 := z_k1 g_1
  have ha := z_kk q_1 ha
  refine z_aload_n dX1_beginClosing_5 rfl 0 rfl ?_
  refine z_aload_n dX1_beginClosing_6 rfl 0 rfl ?_
  refine z_getr (c := 1) (k := 0) (g := 128) (t := 6) z_cb1 (Nat.le_of_ble_eq_true rfl) (Nat.le_of_ble_eq_true rfl) rfl rfl zw_425 rfl ha dX1_beginClosing_7 (fun f2 => ?_)
  refine z_pc (pc' := 10) rfl ?_
  obtain ⟨a3, e3, hP⟩ := hP
  have k3 := f2 a3 e3
  refine z_geti (c := 5) (k := 5) (g := 645) z_cb5 (Nat.le_of_ble_eq_true rfl) (Nat.le_of_ble_eq_true rfl) rfl (Nat.le_of_ble_eq_true rfl) zw_166 e3 k3 dX1_beginClosing_10 ?_
  refine z_bipush (v := 30) dX1_beginClosing_13 (by decide) ?_
  refine z_iadd dX1_beginClosing_15 ?_
  refine z_puti (c := 1) (k := 13) (g := 141) z_cb1 (Nat.le_of_ble_eq_true rfl) (Nat.le_of_ble_eq_true rfl) (Nat.le_of_ble_eq_true rfl) rfl rfl rfl zw_441 rfl ha (Or.inl rfl) dX1_beginClosing_16 ?_
  refine z_nm (fun M_5 g_5 => ?_)
  replace hP := hP M_5 g_5
  have q_5 := z_k1 g_5
  have ha := z_kk q_5 ha
  refine z_aload_n dX1_beginClosing_19 rfl 0 rfl ?_
  refine z_getr (c := 1) (k := 0) (g := 128) (t := 6) z_cb1 (Nat.le_of_ble_eq_true rfl) (Nat.le_of_ble_eq_true rfl) rfl rfl zw_425 rfl ha dX1_beginClosing_20 (fun f6 => ?_)
  refine z_pc (pc' := 23) rfl ?_
  refine z_aload_n dX1_beginClosing_23 rfl 0 rfl ?_
  refine z_geti (c := 1) (k := 15) (g := 143) z_cb1 (Nat.le_of_ble_eq_true rfl) (Nat.le_of_ble_eq_true rfl) rfl (Nat.le_of_ble_eq_true rfl) zw_444 rfl ha dX1_beginClosing_24 ?_
  refine z_iconst (v := 1) dX1_beginClosing_27 (by decide) ?_
  refine z_icmp_ne (tgt := 35) dX1_beginClosing_28 (by decide) (fun h8 => ?_) (fun h8 => ?_)
  · replace hP := hP.2 h8
    refine z_iconst (v := 0) dX1_beginClosing_35 (by decide) ?_
    obtain ⟨r9, hP⟩ := hP
    refine z_wts (fun hT9 _ => ?_)
    refine z_newo (c := 4) z_cb4 (Nat.le_of_ble_eq_true rfl) rfl z_df4 zw_792 zw_115 zw_6 r9 dX1_beginClosing_36 (fun x9 k9 => ?_)
    refine z_nm (fun M_10 g_10 => ?_)
    replace hP := hP M_10 g_10
    have x9 := z_xe g_10 x9
    have k9 := z_xk g_10 k9
    have ha := x9.k (k := 1) hT9 ha
    have f6 := x9.t (k := 5) hT9 f6
    refine z_dup dX1_beginClosing_39 rfl ?_
    refine z_pc (pc' := 40) rfl ?_
    refine z_bipush (v := 7) dX1_beginClosing_40 (by decide) ?_
    refine z_wts (fun hT11 _ => ?_)
    refine z_cIv (n := 1) (Y1 := Y_X4_init) (st := [z_O _, z_I _, z_O _]) rfl (s_X4_init k9 hP) rfl rfl rfl ⟨z_dc_X4_init, ⟨(Nat.le_of_ble_eq_true rfl), (Nat.le_of_ble_eq_true rfl)⟩, (Nat.le_of_ble_eq_true rfl)⟩ rfl zw_793 zw_117 zw_6 zw_118 dX1_beginClosing_42 (fun M_11 hP _ x11 => ?_)
    have ha := x11.k (k := 1) hT11 ha
    have k9 := x11.k (k := 4) hT11 k9
    have f6 := x11.t (k := 5) hT11 f6
    obtain ⟨a13, e13, hP⟩ := hP
    have k13 := f6 a13 e13
    refine z_wts (fun hT12 _ => ?_)
    refine z_cVv (c := 5) (n := 2) (Y1 := Y_X5_putToServer) (st := []) e13 k13 z_cb5 (Nat.le_of_ble_eq_true rfl) rfl (s_X5_putToServer k13 (z_trn rfl k9) hP) rfl ⟨z_dc_X5_putToServer, ⟨(Nat.le_of_ble_eq_true rfl), (Nat.le_of_ble_eq_true rfl)⟩, (Nat.le_of_ble_eq_true rfl)⟩ rfl zw_794 zw_795 zw_796 zw_2 zw_797 dX1_beginClosing_45 (fun M_12 hP _ x12 => ?_)
    have ha := x12.k (k := 1) hT12 ha
    exact z_retv rfl dX1_beginClosing_48 hP
  · replace hP := hP.1 h8
    refine z_iconst (v := 1) dX1_beginClosing_31 (by decide) ?_
    refine z_goto (tgt := 36) dX1_beginClosing_32 (by decide) ?_
    obtain ⟨r14, hP⟩ := hP
    refine z_wts (fun hT14 _ => ?_)
    refine z_newo (c := 4) z_cb4 (Nat.le_of_ble_eq_true rfl) rfl z_df4 zw_792 zw_115 zw_6 r14 dX1_beginClosing_36 (fun x14 k14 => ?_)
    refine z_nm (fun M_15 g_15 => ?_)
    replace hP := hP M_15 g_15
    have x14 := z_xe g_15 x14
    have k14 := z_xk g_15 k14
    have ha := x14.k (k := 1) hT14 ha
    have f6 := x14.t (k := 5) hT14 f6
    refine z_dup dX1_beginClosing_39 rfl ?_
    refine z_pc (pc' := 40) rfl ?_
    refine z_bipush (v := 7) dX1_beginClosing_40 (by decide) ?_
    refine z_wts (fun hT16 _ => ?_)
    refine z_cIv (n := 1) (Y1 := Y_X4_init) (st := [z_O _, z_I _, z_O _]) rfl (s_X4_init k14 hP) rfl rfl rfl ⟨z_dc_X4_init, ⟨(Nat.le_of_ble_eq_true rfl), (Nat.le_of_ble_eq_true rfl)⟩, (Nat.le_of_ble_eq_true rfl)⟩ rfl zw_793 zw_117 zw_6 zw_118 dX1_beginClosing_42 (fun M_16 hP _ x16 => ?_)
    have ha := x16.k (k := 1) hT16 ha
    have k14 := x16.k (k := 4) hT16 k14
    have f6 := x16.t (k := 5) hT16 f6
    obtain ⟨a18, e18, hP⟩ := hP
    have k18 := f6 a18 e18
    refine z_wts (fun hT17 _ => ?_)
    refine z_cVv (c := 5) (n := 2) (Y1 := Y_X5_putToServer) (st := []) e18 k18 z_cb5 (Nat.le_of_ble_eq_true rfl) rfl (s_X5_putToServer k18 (z_trn rfl k14) hP) rfl ⟨z_dc_X5_putToServer, ⟨(Nat.le_of_ble_eq_true rfl), (Nat.le_of_ble_eq_true rfl)⟩, (Nat.le_of_ble_eq_true rfl)⟩ rfl zw_794 zw_795 zw_796 zw_2 zw_797 dX1_beginClosing_45 (fun M_17 hP _ x17 => ?_)
    have ha := x17.k (k := 1) hT17 ha
    exact z_retv rfl dX1_beginClosing_48 hP
def P_X10_takeDue_83 (a : Nat) (Post : Option Nat → z_Mem → Prop) (J2 : Int32 → Int32 → z_Mem → Prop) (x1 : Int32) (x2 : Int32) (M : z_Mem) : Prop := ∀ x_1 : Int32, x_1 = x2 + 1 → (J2 x1 x_1 M)
set_option maxRecDepth 100000 in
def P_X10_takeDue_2 (a : Nat) (Post : Option Nat → z_Mem → Prop)  : Nat → Int32 → Int32 → z_Mem → Prop
  | 0, _, _, _ => False
  | n + 1, x1, x2, M => (((z_fi M 1281 a) ≤ x2 → Post none M) ∧ (¬ (z_fi M 1281 a) ≤ x2 → z_nn (z_fr M 1280 a) fun a5 => ((((nI (z_ln M a5)) ≤ x2 → Post none M) ∧ (¬ (nI (z_ln M a5)) ≤ x2 → z_nn (z_fr M 1280 a) fun a8 => (vp_in x2 (z_ln M a8) ∧ ((((z_ar M a8 ((x2 : Int32).toNatClampNeg)) = none → P_X10_takeDue_83 a Post (fun q0 q1 qM => P_X10_takeDue_2 a Post n q0 q1 qM) x1 x2 M) ∧ (∀ a10 : Nat, (z_ar M a8 ((x2 : Int32).toNatClampNeg)) = some a10 → (((z_fi M 514 a10) = x1 → z_nn (z_fr M 1280 a) fun a16 => (¬ (x2 + 1) < 0 ∧ ¬ x2 < 0 ∧ ¬ (((z_fi M 1281 a) - x2) - 1) < 0 ∧ (((x2 + 1) : Int32).toNatClampNeg) + (((((z_fi M 1281 a) - x2) - 1) : Int32).toNatClampNeg) ≤ z_ln M a16 ∧ ((x2 : Int32).toNatClampNeg) + (((((z_fi M 1281 a) - x2) - 1) : Int32).toNatClampNeg) ≤ z_ln M a16 ∧ (∀ M_18 : z_Mem, M_18 = z_srr M a16 (va_cpy (z_ar M a16) (z_ar M a16) (((x2 + 1) : Int32).toNatClampNeg) ((x2 : Int32).toNatClampNeg) (((((z_fi M 1281 a) - x2) - 1) : Int32).toNatClampNeg)) → (∀ M_20 : z_Mem, M_20 = z_sfi M_18 1281 a ((z_fi M_18 1281 a) - 1) → (z_nn (z_fr M_20 1280 a) fun a23 => (vp_in (z_fi M_20 1281 a) (z_ln M_20 a23) ∧ (∀ M_25 : z_Mem, M_25 = z_sar M_20 a23 (((z_fi M_20 1281 a) : Int32).toNatClampNeg) none → (Post (z_ar M a8 ((x2 : Int32).toNatClampNeg)) M_25)))))))) ∧ (¬ (z_fi M 514 a10) = x1 → P_X10_takeDue_83 a Post (fun q0 q1 qM => P_X10_takeDue_2 a Post n q0 q1 qM) x1 x2 M)))))))))))
set_option maxRecDepth 100000 in
def P_X10_takeDue (a : Nat) (p1 : Int32) (M : z_Mem) (Post : Option Nat → z_Mem → Prop) : Prop := (∃ n26 : Nat, P_X10_takeDue_2 a Post n26 p1 0 M)
set_option maxRecDepth 100000 in
set_option maxHeartbeats 4000000 in
theorem v_X10_takeDue_83 {G : z_G} {M0 : z_Mem} {a : Nat} {Post : Option Nat → z_Mem → Prop} {J2 : Int32 → Int32 → z_Mem → Prop} (hJ2 : ∀ (x1 : Int32) (x2 : Int32) (M : z_Mem), (z_ki M a = 11) → J2 x1 x2 M → z_V G Y_X10_takeDue z_X0 M0 (z_QM G M0 (z_PO 5 Post)) M 2 [(0, z_O (some a)), (1, z_I x1), (2, z_I x2)] []) {x1 : Int32} {x2 : Int32} {M : z_Mem} (ha : z_ki M a = 11) (hP : P_X10_takeDue_83 a Post J2 x1 x2 M) : z_V G Y_X10_takeDue z_X0 M0 (z_QM G M0 (z_PO 5 Post)) M 83 [(0, z_O (some a)), (1, z_I x1), (2, z_I x2)] [] := by
  unfold P_X10_takeDue_83 at hP
  refine z_iincN (j := 2) (m := 1) (lv' := fun v => [(2, z_I v), (0, z_O _), (1, z_I _)]) dX10_takeDue_83 rfl (by decide) (Nat.le_of_ble_eq_true rfl) (fun _ => rfl) (fun x_1 y_1 => ?_)
  replace hP := hP x_1 y_1
  refine z_goto (tgt := 2) dX10_takeDue_86 (by decide) ?_
  refine z_sub (lv' := [(0, z_O _), (1, z_I _), (2, z_I _)]) [1, 2, 0] rfl ?_
  exact hJ2 _ _ _ ha hP
set_option maxRecDepth 100000 in
set_option maxHeartbeats 4000000 in
theorem v_X10_takeDue_2 {G : z_G} {M0 : z_Mem} {a : Nat} {Post : Option Nat → z_Mem → Prop}   : ∀ (n : Nat) {x1 : Int32} {x2 : Int32} {M : z_Mem}, (z_ki M a = 11) → P_X10_takeDue_2 a Post n x1 x2 M → z_V G Y_X10_takeDue z_X0 M0 (z_QM G M0 (z_PO 5 Post)) M 2 [(0, z_O (some a)), (1, z_I x1), (2, z_I x2)] [] := by
  intro n
  induction n with
  | zero => intro x1 x2 M ha hP; exact False.elim hP
  | succ n ih =>
    intro x1 x2 M ha hP
    unfold P_X10_takeDue_2 at hP
    refine z_iload_n dX10_takeDue_2 rfl 2 rfl ?_
    refine z_aload_n dX10_takeDue_3 rfl 0 rfl ?_
    refine z_geti (c := 10) (k := 1) (g := 1281) z_cb10 (Nat.le_of_ble_eq_true rfl) (Nat.le_of_ble_eq_true rfl) rfl (Nat.le_of_ble_eq_true rfl) zw_106 rfl ha dX10_takeDue_4 ?_
    refine z_icmp_ge (tgt := 89) dX10_takeDue_7 (by decide) (fun h3 => ?_) (fun h3 => ?_)
    · replace hP := hP.1 h3
      refine z_null dX10_takeDue_89 ?_
      exact z_reto (k := 5) rfl z_tr0 dX10_takeDue_90 hP
    · replace hP := hP.2 h3
      refine z_iload_n dX10_takeDue_10 rfl 2 rfl ?_
      refine z_aload_n dX10_takeDue_11 rfl 0 rfl ?_
      refine z_getr (c := 10) (k := 0) (g := 1280) (t := 22) z_cb10 (Nat.le_of_ble_eq_true rfl) (Nat.le_of_ble_eq_true rfl) rfl rfl zw_105 rfl ha dX10_takeDue_12 (fun f4 => ?_)
      refine z_pc (pc' := 15) rfl ?_
      obtain ⟨a5, e5, hP⟩ := hP
      have k5 := f4 a5 e5
      refine z_alen (t := 22) e5 k5 (Nat.le_of_ble_eq_true rfl) (Nat.le_of_ble_eq_true rfl) dX10_takeDue_15 ?_
      refine z_icmp_ge (tgt := 89) dX10_takeDue_16 (by decide) (fun h6 => ?_) (fun h6 => ?_)
      · replace hP := hP.1 h6
        refine z_null dX10_takeDue_89 ?_
        exact z_reto (k := 5) rfl z_tr0 dX10_takeDue_90 hP
      · replace hP := hP.2 h6
        refine z_aload_n dX10_takeDue_19 rfl 0 rfl ?_
        refine z_getr (c := 10) (k := 0) (g := 1280) (t := 22) z_cb10 (Nat.le_of_ble_eq_true rfl) (Nat.le_of_ble_eq_true rfl) rfl rfl zw_105 rfl ha dX10_takeDue_20 (fun f7 => ?_)
        refine z_iload_n dX10_takeDue_23 rfl 2 rfl ?_
        obtain ⟨a8, e8, hP⟩ := hP
        have k8 := f7 a8 e8
        obtain ⟨i9, hP⟩ := hP
        refine z_aald (t := 22) e8 k8 (Nat.le_of_ble_eq_true rfl) (Nat.le_of_ble_eq_true rfl) i9 dX10_takeDue_24 (fun f9 => ?_)
        refine z_astore_n (lv' := [(3, z_O _), (0, z_O _), (1, z_I _), (2, z_I _)]) dX10_takeDue_25 rfl (Nat.le_of_ble_eq_true rfl) rfl ?_
        refine z_pc (pc' := 26) rfl ?_
        refine z_aload_n dX10_takeDue_26 rfl 0 rfl ?_
        refine z_ifnull (tgt := 83) dX10_takeDue_27 (by decide) (fun h10 => ?_) (fun a10 e10 => ?_)
        · replace hP := hP.1 h10
          refine z_sub (lv' := [(0, z_O _), (1, z_I _), (2, z_I _)]) [1, 2, 3] rfl ?_
          exact v_X10_takeDue_83 (fun _ _ _ w0 hP => ih w0 hP) ha hP
        · replace hP := hP.2 a10 e10
          have k10 := f9 a10 e10
          refine z_aload_n dX10_takeDue_30 rfl 0 rfl ?_
          refine z_geti (c := 4) (k := 2) (g := 514) z_cb4 (Nat.le_of_ble_eq_true rfl) (Nat.le_of_ble_eq_true rfl) rfl (Nat.le_of_ble_eq_true rfl) zw_127 e10 k10 dX10_takeDue_31 ?_
          refine z_iload_n dX10_takeDue_34 rfl 2 rfl ?_
          refine z_icmp_ne (tgt := 83) dX10_takeDue_35 (by decide) (fun h12 => ?_) (fun h12 => ?_)
          · replace hP := hP.2 h12
            refine z_sub (lv' := [(0, z_O _), (1, z_I _), (2, z_I _)]) [1, 2, 3] rfl ?_
            exact v_X10_takeDue_83 (fun _ _ _ w0 hP => ih w0 hP) ha hP
          · replace hP := hP.1 h12
            refine z_aload_n dX10_takeDue_38 rfl 1 rfl ?_
            refine z_getr (c := 10) (k := 0) (g := 1280) (t := 22) z_cb10 (Nat.le_of_ble_eq_true rfl) (Nat.le_of_ble_eq_true rfl) rfl rfl zw_105 rfl ha dX10_takeDue_39 (fun f13 => ?_)
            refine z_pc (pc' := 42) rfl ?_
            refine z_iload_n dX10_takeDue_42 rfl 3 rfl ?_
            refine z_iconst (v := 1) dX10_takeDue_43 (by decide) ?_
            refine z_iadd dX10_takeDue_44 ?_
            refine z_aload_n dX10_takeDue_45 rfl 1 rfl ?_
            refine z_getr (c := 10) (k := 0) (g := 1280) (t := 22) z_cb10 (Nat.le_of_ble_eq_true rfl) (Nat.le_of_ble_eq_true rfl) rfl rfl zw_105 rfl ha dX10_takeDue_46 (fun f14 => ?_)
            refine z_iload_n dX10_takeDue_49 rfl 3 rfl ?_
            refine z_pc (pc' := 50) rfl ?_
            refine z_aload_n dX10_takeDue_50 rfl 1 rfl ?_
            refine z_geti (c := 10) (k := 1) (g := 1281) z_cb10 (Nat.le_of_ble_eq_true rfl) (Nat.le_of_ble_eq_true rfl) rfl (Nat.le_of_ble_eq_true rfl) zw_106 rfl ha dX10_takeDue_51 ?_
            refine z_iload_n dX10_takeDue_54 rfl 3 rfl ?_
            refine z_isub dX10_takeDue_55 ?_
            refine z_iconst (v := 1) dX10_takeDue_56 (by decide) ?_
            refine z_isub dX10_takeDue_57 ?_
            refine z_pc (pc' := 58) rfl ?_
            obtain ⟨a16, e16, hP⟩ := hP
            have k16 := f14 a16 e16
            obtain ⟨u17a, u17b, u17c, u17d, u17e, hP⟩ := hP
            refine z_copyq zw_882 zw_884 zw_883 zw_20 e16 k16 u17a u17b u17c u17d u17e (Nat.le_of_ble_eq_true rfl) (Nat.le_of_ble_eq_true rfl) (Nat.le_of_ble_eq_true rfl) dX10_takeDue_58 ?_
            refine z_nm (fun M_18 g_18 => ?_)
            replace hP := hP M_18 g_18
            have q_18 := z_k6 g_18
            have ha := z_kk q_18 ha
            have k10 := z_kk q_18 k10
            refine z_aload_n dX10_takeDue_61 rfl 1 rfl ?_
            refine z_dup dX10_takeDue_62 rfl ?_
            refine z_geti (c := 10) (k := 1) (g := 1281) z_cb10 (Nat.le_of_ble_eq_true rfl) (Nat.le_of_ble_eq_true rfl) rfl (Nat.le_of_ble_eq_true rfl) zw_106 rfl ha dX10_takeDue_63 ?_
            refine z_iconst (v := 1) dX10_takeDue_66 (by decide) ?_
            refine z_isub dX10_takeDue_67 ?_
            refine z_pc (pc' := 68) rfl ?_
            refine z_puti (c := 10) (k := 1) (g := 1281) z_cb10 (Nat.le_of_ble_eq_true rfl) (Nat.le_of_ble_eq_true rfl) (Nat.le_of_ble_eq_true rfl) rfl rfl rfl zw_106 rfl ha (Or.inl rfl) dX10_takeDue_68 ?_
            refine z_nm (fun M_20 g_20 => ?_)
            replace hP := hP M_20 g_20
            have q_20 := z_k1 g_20
            have ha := z_kk q_20 ha
            have k10 := z_kk q_20 k10
            refine z_aload_n dX10_takeDue_71 rfl 1 rfl ?_
            refine z_getr (c := 10) (k := 0) (g := 1280) (t := 22) z_cb10 (Nat.le_of_ble_eq_true rfl) (Nat.le_of_ble_eq_true rfl) rfl rfl zw_105 rfl ha dX10_takeDue_72 (fun f21 => ?_)
            refine z_aload_n dX10_takeDue_75 rfl 1 rfl ?_
            refine z_geti (c := 10) (k := 1) (g := 1281) z_cb10 (Nat.le_of_ble_eq_true rfl) (Nat.le_of_ble_eq_true rfl) rfl (Nat.le_of_ble_eq_true rfl) zw_106 rfl ha dX10_takeDue_76 ?_
            refine z_null dX10_takeDue_79 ?_
            refine z_pc (pc' := 80) rfl ?_
            obtain ⟨a23, e23, hP⟩ := hP
            have k23 := f21 a23 e23
            obtain ⟨i24, hP⟩ := hP
            refine z_aast (t := 22) e23 k23 (Nat.le_of_ble_eq_true rfl) (Nat.le_of_ble_eq_true rfl) i24 z_tr0 dX10_takeDue_80 ?_
            refine z_nm (fun M_25 g_25 => ?_)
            replace hP := hP M_25 g_25
            have q_25 := z_k4 g_25
            have ha := z_kk q_25 ha
            have k10 := z_kk q_25 k10
            refine z_aload_n dX10_takeDue_81 rfl 0 rfl ?_
            exact z_reto (k := 5) rfl (z_trn e10 k10) dX10_takeDue_82 hP
set_option maxRecDepth 100000 in
set_option maxHeartbeats 4000000 in
theorem s_X10_takeDue {G : z_G} {M : z_Mem} {a : Nat} {p1 : Int32} {Post : Option Nat → z_Mem → Prop} (ha : z_ki M a = 11) (hP : P_X10_takeDue a p1 M Post) : z_Mt G Y_X10_takeDue M [z_O (some a), z_I p1] (z_PO 5 Post) := by
  refine z_ofV (by decide) (Nat.le_of_ble_eq_true rfl) ?_
  unfold P_X10_takeDue at hP
  refine z_sub (lv' := [(0, z_O (some a)), (1, z_I p1)]) [0, 1] rfl ?_
  refine z_iconst (v := 0) dX10_takeDue_0 (by decide) ?_
  refine z_istore_n (lv' := [(2, z_I _), (0, z_O _), (1, z_I _)]) dX10_takeDue_1 rfl (Nat.le_of_ble_eq_true rfl) rfl ?_
  obtain ⟨n26, hP⟩ := hP
  refine z_sub (lv' := [(0, z_O _), (1, z_I _), (2, z_I _)]) [1, 2, 0] rfl ?_
  exact v_X10_takeDue_2  n26 ha hP
set_option maxRecDepth 100000 in
def P_X7_measure (a : Nat) (p1 : Int32) (M : z_Mem) (Post : z_Mem → Prop) : Prop := ∀ M_1 : z_Mem, M_1 = z_sfi M 903 a p1 → ((((z_fi M_1 904 a) = 0 → ∀ M_4 : z_Mem, M_4 = z_sfi M_1 904 a 1 → (∀ M_5 : z_Mem, M_5 = z_sfi M_4 902 a p1 → (∀ M_6 : z_Mem, M_6 = z_sfi M_5 901 a (2 * p1) → (∀ M_7 : z_Mem, M_7 = z_sfi M_6 900 a (8 * p1) → (Post M_7))))) ∧ (¬ (z_fi M_1 904 a) = 0 → ∀ M_9 : z_Mem, M_9 = z_sfi M_1 902 a ((if p1 < (z_fi M_1 902 a) then p1 else (z_fi M_1 902 a)) : Int32) → (∀ M_13 : z_Mem, M_13 = z_sfi M_9 901 a ((z_fi M_9 901 a) + (((if 0 ≤ (p1 - ((z_fi M_9 900 a) / 8)) then (p1 - ((z_fi M_9 900 a) / 8)) else 0 - (p1 - ((z_fi M_9 900 a) / 8))) : Int32) - ((z_fi M_9 901 a) / 4))) → (∀ M_16 : z_Mem, M_16 = z_sfi M_13 900 a ((z_fi M_13 900 a) + (p1 - ((z_fi M_13 900 a) / 8))) → (Post M_16))))))
set_option maxRecDepth 100000 in
set_option maxHeartbeats 4000000 in
theorem s_X7_measure {G : z_G} {M : z_Mem} {a : Nat} {p1 : Int32} {Post : z_Mem → Prop} (ha : z_ki M a = 8) (hP : P_X7_measure a p1 M Post) : z_Mt G Y_X7_measure M [z_O (some a), z_I p1] (z_PV Post) := by
  refine z_ofV (by decide) (Nat.le_of_ble_eq_true rfl) ?_
  unfold P_X7_measure at hP
  refine z_sub (lv' := [(0, z_O (some a)), (1, z_I p1)]) [0, 1] rfl ?_
  refine z_aload_n dX7_measure_0 rfl 0 rfl ?_
  refine z_iload_n dX7_measure_1 rfl 1 rfl ?_
  refine z_puti (c := 7) (k := 7) (g := 903) z_cb7 (Nat.le_of_ble_eq_true rfl) (Nat.le_of_ble_eq_true rfl) (Nat.le_of_ble_eq_true rfl) rfl rfl rfl zw_367 rfl ha (Or.inl rfl) dX7_measure_2 ?_
  refine z_nm (fun M_1 g_1 => ?_)
  replace hP := hP M_1 g_1
  have q_1 := z_k1 g_1
  have ha := z_kk q_1 ha
  refine z_aload_n dX7_measure_5 rfl 0 rfl ?_
  refine z_getb (c := 7) (k := 8) (g := 904) z_cb7 (Nat.le_of_ble_eq_true rfl) (Nat.le_of_ble_eq_true rfl) rfl rfl zw_369 rfl ha dX7_measure_6 (fun b2 => ?_)
  refine z_if_eq (tgt := 73) dX7_measure_9 (by decide) (fun h3 => ?_) (fun h3 => ?_)
  · replace hP := hP.1 h3
    refine z_aload_n dX7_measure_73 rfl 0 rfl ?_
    refine z_pc (pc' := 74) rfl ?_
    refine z_iconst (v := 1) dX7_measure_74 (by decide) ?_
    refine z_putb (c := 7) (k := 8) (g := 904) z_cb7 (Nat.le_of_ble_eq_true rfl) (Nat.le_of_ble_eq_true rfl) (Nat.le_of_ble_eq_true rfl) rfl rfl rfl zw_369 rfl ha (Or.inr rfl) (Or.inl rfl) dX7_measure_75 ?_
    refine z_nm (fun M_4 g_4 => ?_)
    replace hP := hP M_4 g_4
    have q_4 := z_k1 g_4
    have ha := z_kk q_4 ha
    refine z_aload_n dX7_measure_78 rfl 0 rfl ?_
    refine z_iload_n dX7_measure_79 rfl 1 rfl ?_
    refine z_puti (c := 7) (k := 6) (g := 902) z_cb7 (Nat.le_of_ble_eq_true rfl) (Nat.le_of_ble_eq_true rfl) (Nat.le_of_ble_eq_true rfl) rfl rfl rfl zw_364 rfl ha (Or.inl rfl) dX7_measure_80 ?_
    refine z_nm (fun M_5 g_5 => ?_)
    replace hP := hP M_5 g_5
    have q_5 := z_k1 g_5
    have ha := z_kk q_5 ha
    refine z_aload_n dX7_measure_83 rfl 0 rfl ?_
    refine z_pc (pc' := 84) rfl ?_
    refine z_iconst (v := 2) dX7_measure_84 (by decide) ?_
    refine z_iload_n dX7_measure_85 rfl 1 rfl ?_
    refine z_imul dX7_measure_86 ?_
    refine z_puti (c := 7) (k := 5) (g := 901) z_cb7 (Nat.le_of_ble_eq_true rfl) (Nat.le_of_ble_eq_true rfl) (Nat.le_of_ble_eq_true rfl) rfl rfl rfl zw_362 rfl ha (Or.inl rfl) dX7_measure_87 ?_
    refine z_nm (fun M_6 g_6 => ?_)
    replace hP := hP M_6 g_6
    have q_6 := z_k1 g_6
    have ha := z_kk q_6 ha
    refine z_aload_n dX7_measure_90 rfl 0 rfl ?_
    refine z_bipush (v := 8) dX7_measure_91 (by decide) ?_
    refine z_pc (pc' := 93) rfl ?_
    refine z_iload_n dX7_measure_93 rfl 1 rfl ?_
    refine z_imul dX7_measure_94 ?_
    refine z_puti (c := 7) (k := 4) (g := 900) z_cb7 (Nat.le_of_ble_eq_true rfl) (Nat.le_of_ble_eq_true rfl) (Nat.le_of_ble_eq_true rfl) rfl rfl rfl zw_360 rfl ha (Or.inl rfl) dX7_measure_95 ?_
    refine z_nm (fun M_7 g_7 => ?_)
    replace hP := hP M_7 g_7
    have q_7 := z_k1 g_7
    have ha := z_kk q_7 ha
    exact z_retv rfl dX7_measure_98 hP
  · replace hP := hP.2 h3
    refine z_aload_n dX7_measure_12 rfl 0 rfl ?_
    refine z_pc (pc' := 13) rfl ?_
    refine z_aload_n dX7_measure_13 rfl 0 rfl ?_
    refine z_geti (c := 7) (k := 6) (g := 902) z_cb7 (Nat.le_of_ble_eq_true rfl) (Nat.le_of_ble_eq_true rfl) rfl (Nat.le_of_ble_eq_true rfl) zw_364 rfl ha dX7_measure_14 ?_
    refine z_iload_n dX7_measure_17 rfl 1 rfl ?_
    refine z_mmin zw_938 zw_692 zw_5 zw_693 dX7_measure_18 (Nat.le_of_ble_eq_true rfl) (Nat.le_of_ble_eq_true rfl) ?_
    refine z_puti (c := 7) (k := 6) (g := 902) z_cb7 (Nat.le_of_ble_eq_true rfl) (Nat.le_of_ble_eq_true rfl) (Nat.le_of_ble_eq_true rfl) rfl rfl rfl zw_364 rfl ha (Or.inl rfl) dX7_measure_21 ?_
    refine z_nm (fun M_9 g_9 => ?_)
    replace hP := hP M_9 g_9
    have q_9 := z_k1 g_9
    have ha := z_kk q_9 ha
    refine z_aload_n dX7_measure_24 rfl 0 rfl ?_
    refine z_pc (pc' := 25) rfl ?_
    refine z_dup dX7_measure_25 rfl ?_
    refine z_geti (c := 7) (k := 5) (g := 901) z_cb7 (Nat.le_of_ble_eq_true rfl) (Nat.le_of_ble_eq_true rfl) rfl (Nat.le_of_ble_eq_true rfl) zw_362 rfl ha dX7_measure_26 ?_
    refine z_iload_n dX7_measure_29 rfl 1 rfl ?_
    refine z_aload_n dX7_measure_30 rfl 0 rfl ?_
    refine z_geti (c := 7) (k := 4) (g := 900) z_cb7 (Nat.le_of_ble_eq_true rfl) (Nat.le_of_ble_eq_true rfl) rfl (Nat.le_of_ble_eq_true rfl) zw_360 rfl ha dX7_measure_31 ?_
    refine z_bipush (v := 8) dX7_measure_34 (by decide) ?_
    refine z_pc (pc' := 36) rfl ?_
    refine z_idiv dX7_measure_36 (by decide) ?_
    refine z_isub dX7_measure_37 ?_
    refine z_mabs zw_939 zw_940 zw_5 zw_941 dX7_measure_38 (Nat.le_of_ble_eq_true rfl) (Nat.le_of_ble_eq_true rfl) ?_
    refine z_aload_n dX7_measure_41 rfl 0 rfl ?_
    refine z_geti (c := 7) (k := 5) (g := 901) z_cb7 (Nat.le_of_ble_eq_true rfl) (Nat.le_of_ble_eq_true rfl) rfl (Nat.le_of_ble_eq_true rfl) zw_362 rfl ha dX7_measure_42 ?_
    refine z_iconst (v := 4) dX7_measure_45 (by decide) ?_
    refine z_pc (pc' := 46) rfl ?_
    refine z_idiv dX7_measure_46 (by decide) ?_
    refine z_isub dX7_measure_47 ?_
    refine z_iadd dX7_measure_48 ?_
    refine z_puti (c := 7) (k := 5) (g := 901) z_cb7 (Nat.le_of_ble_eq_true rfl) (Nat.le_of_ble_eq_true rfl) (Nat.le_of_ble_eq_true rfl) rfl rfl rfl zw_362 rfl ha (Or.inl rfl) dX7_measure_49 ?_
    refine z_nm (fun M_13 g_13 => ?_)
    replace hP := hP M_13 g_13
    have q_13 := z_k1 g_13
    have ha := z_kk q_13 ha
    refine z_aload_n dX7_measure_52 rfl 0 rfl ?_
    refine z_dup dX7_measure_53 rfl ?_
    refine z_pc (pc' := 54) rfl ?_
    refine z_geti (c := 7) (k := 4) (g := 900) z_cb7 (Nat.le_of_ble_eq_true rfl) (Nat.le_of_ble_eq_true rfl) rfl (Nat.le_of_ble_eq_true rfl) zw_360 rfl ha dX7_measure_54 ?_
    refine z_iload_n dX7_measure_57 rfl 1 rfl ?_
    refine z_aload_n dX7_measure_58 rfl 0 rfl ?_
    refine z_geti (c := 7) (k := 4) (g := 900) z_cb7 (Nat.le_of_ble_eq_true rfl) (Nat.le_of_ble_eq_true rfl) rfl (Nat.le_of_ble_eq_true rfl) zw_360 rfl ha dX7_measure_59 ?_
    refine z_bipush (v := 8) dX7_measure_62 (by decide) ?_
    refine z_idiv dX7_measure_64 (by decide) ?_
    refine z_pc (pc' := 65) rfl ?_
    refine z_isub dX7_measure_65 ?_
    refine z_iadd dX7_measure_66 ?_
    refine z_puti (c := 7) (k := 4) (g := 900) z_cb7 (Nat.le_of_ble_eq_true rfl) (Nat.le_of_ble_eq_true rfl) (Nat.le_of_ble_eq_true rfl) rfl rfl rfl zw_360 rfl ha (Or.inl rfl) dX7_measure_67 ?_
    refine z_nm (fun M_16 g_16 => ?_)
    replace hP := hP M_16 g_16
    have q_16 := z_k1 g_16
    have ha := z_kk q_16 ha
    refine z_goto (tgt := 98) dX7_measure_70 (by decide) ?_
    exact z_retv rfl dX7_measure_98 hP
set_option maxRecDepth 100000 in
def P_X9_isLost (a : Nat) (p1 : Int32) (M : z_Mem) (Post : Int32 → z_Mem → Prop) : Prop := ((p1 < 0 → Post 0 M) ∧ (¬ p1 < 0 → (((z_fi M 1153 a) ≤ p1 → Post 0 M) ∧ (¬ (z_fi M 1153 a) ≤ p1 → ((200 ≤ p1 → Post 0 M) ∧ (¬ 200 ≤ p1 → z_nn (z_fr M 1159 a) fun a6 => (vp_in p1 (z_ln M a6) ∧ ((((z_ai M a6 ((p1 : Int32).toNatClampNeg)) = 0 → z_nn (z_fr M 1160 a) fun a10 => (vp_in p1 (z_ln M a10) ∧ ((((z_ai M a10 ((p1 : Int32).toNatClampNeg)) = 0 → Post 1 M) ∧ (¬ (z_ai M a10 ((p1 : Int32).toNatClampNeg)) = 0 → Post 0 M))))) ∧ (¬ (z_ai M a6 ((p1 : Int32).toNatClampNeg)) = 0 → Post 0 M))))))))))
set_option maxRecDepth 100000 in
set_option maxHeartbeats 4000000 in
theorem s_X9_isLost {G : z_G} {M : z_Mem} {a : Nat} {p1 : Int32} {Post : Int32 → z_Mem → Prop} (ha : z_ki M a = 10) (hP : P_X9_isLost a p1 M Post) : z_Mt G Y_X9_isLost M [z_O (some a), z_I p1] (z_PB Post) := by
  refine z_ofV (by decide) (Nat.le_of_ble_eq_true rfl) ?_
  unfold P_X9_isLost at hP
  refine z_sub (lv' := [(0, z_O (some a)), (1, z_I p1)]) [0, 1] rfl ?_
  refine z_iload_n dX9_isLost_0 rfl 1 rfl ?_
  refine z_if_lt (tgt := 41) dX9_isLost_1 (by decide) (fun h1 => ?_) (fun h1 => ?_)
  · replace hP := hP.1 h1
    refine z_iconst (v := 0) dX9_isLost_41 (by decide) ?_
    exact z_retb rfl (Or.inl rfl) dX9_isLost_42 hP
  · replace hP := hP.2 h1
    refine z_iload_n dX9_isLost_4 rfl 1 rfl ?_
    refine z_aload_n dX9_isLost_5 rfl 0 rfl ?_
    refine z_geti (c := 9) (k := 1) (g := 1153) z_cb9 (Nat.le_of_ble_eq_true rfl) (Nat.le_of_ble_eq_true rfl) rfl (Nat.le_of_ble_eq_true rfl) zw_190 rfl ha dX9_isLost_6 ?_
    refine z_icmp_ge (tgt := 41) dX9_isLost_9 (by decide) (fun h3 => ?_) (fun h3 => ?_)
    · replace hP := hP.1 h3
      refine z_iconst (v := 0) dX9_isLost_41 (by decide) ?_
      exact z_retb rfl (Or.inl rfl) dX9_isLost_42 hP
    · replace hP := hP.2 h3
      refine z_iload_n dX9_isLost_12 rfl 1 rfl ?_
      refine z_sipush (v := 200) dX9_isLost_13 (by decide) ?_
      refine z_pc (pc' := 16) rfl ?_
      refine z_icmp_ge (tgt := 41) dX9_isLost_16 (by decide) (fun h4 => ?_) (fun h4 => ?_)
      · replace hP := hP.1 h4
        refine z_iconst (v := 0) dX9_isLost_41 (by decide) ?_
        exact z_retb rfl (Or.inl rfl) dX9_isLost_42 hP
      · replace hP := hP.2 h4
        refine z_aload_n dX9_isLost_19 rfl 0 rfl ?_
        refine z_getr (c := 9) (k := 7) (g := 1159) (t := 21) z_cb9 (Nat.le_of_ble_eq_true rfl) (Nat.le_of_ble_eq_true rfl) rfl rfl zw_206 rfl ha dX9_isLost_20 (fun f5 => ?_)
        refine z_iload_n dX9_isLost_23 rfl 1 rfl ?_
        obtain ⟨a6, e6, hP⟩ := hP
        have k6 := f5 a6 e6
        obtain ⟨i7, hP⟩ := hP
        refine z_zald e6 k6 i7 dX9_isLost_24 (fun b7 => ?_)
        refine z_if_ne (tgt := 41) dX9_isLost_25 (by decide) (fun h8 => ?_) (fun h8 => ?_)
        · replace hP := hP.2 h8
          refine z_iconst (v := 0) dX9_isLost_41 (by decide) ?_
          exact z_retb rfl (Or.inl rfl) dX9_isLost_42 hP
        · replace hP := hP.1 h8
          refine z_aload_n dX9_isLost_28 rfl 0 rfl ?_
          refine z_getr (c := 9) (k := 8) (g := 1160) (t := 20) z_cb9 (Nat.le_of_ble_eq_true rfl) (Nat.le_of_ble_eq_true rfl) rfl rfl zw_207 rfl ha dX9_isLost_29 (fun f9 => ?_)
          refine z_pc (pc' := 32) rfl ?_
          refine z_iload_n dX9_isLost_32 rfl 1 rfl ?_
          obtain ⟨a10, e10, hP⟩ := hP
          have k10 := f9 a10 e10
          obtain ⟨i11, hP⟩ := hP
          refine z_iald e10 k10 i11 dX9_isLost_33 ?_
          refine z_if_ne (tgt := 41) dX9_isLost_34 (by decide) (fun h12 => ?_) (fun h12 => ?_)
          · replace hP := hP.2 h12
            refine z_iconst (v := 0) dX9_isLost_41 (by decide) ?_
            exact z_retb rfl (Or.inl rfl) dX9_isLost_42 hP
          · replace hP := hP.1 h12
            refine z_iconst (v := 1) dX9_isLost_37 (by decide) ?_
            refine z_goto (tgt := 42) dX9_isLost_38 (by decide) ?_
            exact z_retb rfl (Or.inr rfl) dX9_isLost_42 hP
def P_X9_acknowledge_64 (a : Nat) (Post : z_Mem → Prop) (J6 : Int32 → Int32 → Int32 → z_Mem → Prop) (x1 : Int32) (x2 : Int32) (x3 : Int32) (M : z_Mem) : Prop := ∀ x_1 : Int32, x_1 = x3 + 1 → (J6 x1 x2 x_1 M)
def P_X9_acknowledge_38 (a : Nat) (Post : z_Mem → Prop) (J6 : Int32 → Int32 → Int32 → z_Mem → Prop) (x1 : Int32) (x2 : Int32) (x3 : Int32) (M : z_Mem) : Prop := z_nn (z_fr M 1159 a) fun a3 => (vp_in x3 (z_ln M a3) ∧ ((((z_ai M a3 ((x3 : Int32).toNatClampNeg)) = 0 → z_nn (z_fr M 1159 a) fun a7 => (vp_in x3 (z_ln M a7) ∧ (∀ M_9 : z_Mem, M_9 = z_sai M a7 ((x3 : Int32).toNatClampNeg) 1 → (∀ M_11 : z_Mem, M_11 = z_sfi M_9 1154 a ((z_fi M_9 1154 a) + 1) → (P_X9_acknowledge_64 a Post J6 x1 x2 x3 M_11))))) ∧ (¬ (z_ai M a3 ((x3 : Int32).toNatClampNeg)) = 0 → P_X9_acknowledge_64 a Post J6 x1 x2 x3 M))))
set_option maxRecDepth 100000 in
def P_X9_acknowledge_6 (a : Nat) (Post : z_Mem → Prop)  : Nat → Int32 → Int32 → Int32 → z_Mem → Prop
  | 0, _, _, _, _ => False
  | n + 1, x1, x2, x3, M => (((x1 + x2) ≤ x3 → Post M) ∧ (¬ (x1 + x2) ≤ x3 → ((200 ≤ x3 → Post M) ∧ (¬ 200 ≤ x3 → P_X9_isLost a x3 M fun x_14 M_14 => (((x_14 = 0 → P_X9_acknowledge_38 a Post (fun q0 q1 q2 qM => P_X9_acknowledge_6 a Post n q0 q1 q2 qM) x1 x2 x3 M_14) ∧ (¬ x_14 = 0 → ∀ M_17 : z_Mem, M_17 = z_sfi M_14 1155 a ((z_fi M_14 1155 a) - 1) → (P_X9_acknowledge_38 a Post (fun q0 q1 q2 qM => P_X9_acknowledge_6 a Post n q0 q1 q2 qM) x1 x2 x3 M_17))))))))
set_option maxRecDepth 100000 in
def P_X9_acknowledge (a : Nat) (p1 : Int32) (p2 : Int32) (M : z_Mem) (Post : z_Mem → Prop) : Prop := ∀ x_18 : Int32, x_18 = ((if 0 < p1 then p1 else 0) : Int32) → ((∃ n19 : Nat, P_X9_acknowledge_6 a Post n19 p1 p2 x_18 M))
set_option maxRecDepth 100000 in
set_option maxHeartbeats 4000000 in
theorem v_X9_acknowledge_64 {G : z_G} {M0 : z_Mem} {a : Nat} {Post : z_Mem → Prop} {J6 : Int32 → Int32 → Int32 → z_Mem → Prop} (hJ6 : ∀ (x1 : Int32) (x2 : Int32) (x3 : Int32) (M : z_Mem), (z_ki M a = 10) → J6 x1 x2 x3 M → z_V G Y_X9_acknowledge z_X0 M0 (z_QM G M0 (z_PV Post)) M 6 [(0, z_O (some a)), (1, z_I x1), (2, z_I x2), (3, z_I x3)] []) {x1 : Int32} {x2 : Int32} {x3 : Int32} {M : z_Mem} (ha : z_ki M a = 10) (hP : P_X9_acknowledge_64 a Post J6 x1 x2 x3 M) : z_V G Y_X9_acknowledge z_X0 M0 (z_QM G M0 (z_PV Post)) M 64 [(0, z_O (some a)), (1, z_I x1), (2, z_I x2), (3, z_I x3)] [] := by
  unfold P_X9_acknowledge_64 at hP
  refine z_iincN (j := 3) (m := 1) (lv' := fun v => [(3, z_I v), (0, z_O _), (1, z_I _), (2, z_I _)]) dX9_acknowledge_64 rfl (by decide) (Nat.le_of_ble_eq_true rfl) (fun _ => rfl) (fun x_1 y_1 => ?_)
  replace hP := hP x_1 y_1
  refine z_goto (tgt := 6) dX9_acknowledge_67 (by decide) ?_
  refine z_sub (lv' := [(0, z_O _), (1, z_I _), (2, z_I _), (3, z_I _)]) [1, 2, 3, 0] rfl ?_
  exact hJ6 _ _ _ _ ha hP
set_option maxRecDepth 100000 in
set_option maxHeartbeats 4000000 in
theorem v_X9_acknowledge_38 {G : z_G} {M0 : z_Mem} {a : Nat} {Post : z_Mem → Prop} {J6 : Int32 → Int32 → Int32 → z_Mem → Prop} (hJ6 : ∀ (x1 : Int32) (x2 : Int32) (x3 : Int32) (M : z_Mem), (z_ki M a = 10) → J6 x1 x2 x3 M → z_V G Y_X9_acknowledge z_X0 M0 (z_QM G M0 (z_PV Post)) M 6 [(0, z_O (some a)), (1, z_I x1), (2, z_I x2), (3, z_I x3)] []) {x1 : Int32} {x2 : Int32} {x3 : Int32} {M : z_Mem} (ha : z_ki M a = 10) (hP : P_X9_acknowledge_38 a Post J6 x1 x2 x3 M) : z_V G Y_X9_acknowledge z_X0 M0 (z_QM G M0 (z_PV Post)) M 38 [(0, z_O (some a)), (1, z_I x1), (2, z_I x2), (3, z_I x3)] [] := by
  unfold P_X9_acknowledge_38 at hP
  refine z_aload_n dX9_acknowledge_38 rfl 0 rfl ?_
  refine z_getr (c := 9) (k := 7) (g := 1159) (t := 21) z_cb9 (Nat.le_of_ble_eq_true rfl) (Nat.le_of_ble_eq_true rfl) rfl rfl zw_206 rfl ha dX9_acknowledge_39 (fun f2 => ?_)
  refine z_iload_n dX9_acknowledge_42 rfl 3 rfl ?_
  obtain ⟨a3, e3, hP⟩ := hP
  have k3 := f2 a3 e3
  obtain ⟨i4, hP⟩ := hP
  refine z_zald e3 k3 i4 dX9_acknowledge_43 (fun b4 => ?_)
  refine z_if_ne (tgt := 64) dX9_acknowledge_44 (by decide) (fun h5 => ?_) (fun h5 => ?_)
  · replace hP := hP.2 h5
    refine z_sub (lv' := [(0, z_O _), (1, z_I _), (2, z_I _), (3, z_I _)]) [0, 1, 2, 3] rfl ?_
    exact v_X9_acknowledge_64 hJ6 ha hP
  · replace hP := hP.1 h5
    refine z_aload_n dX9_acknowledge_47 rfl 0 rfl ?_
    refine z_getr (c := 9) (k := 7) (g := 1159) (t := 21) z_cb9 (Nat.le_of_ble_eq_true rfl) (Nat.le_of_ble_eq_true rfl) rfl rfl zw_206 rfl ha dX9_acknowledge_48 (fun f6 => ?_)
    refine z_pc (pc' := 51) rfl ?_
    refine z_iload_n dX9_acknowledge_51 rfl 3 rfl ?_
    refine z_iconst (v := 1) dX9_acknowledge_52 (by decide) ?_
    obtain ⟨a7, e7, hP⟩ := hP
    have k7 := f6 a7 e7
    obtain ⟨i8, hP⟩ := hP
    refine z_zast e7 k7 i8 (Or.inr rfl) dX9_acknowledge_53 ?_
    refine z_nm (fun M_9 g_9 => ?_)
    replace hP := hP M_9 g_9
    have q_9 := z_k3 g_9
    have ha := z_kk q_9 ha
    refine z_aload_n dX9_acknowledge_54 rfl 0 rfl ?_
    refine z_dup dX9_acknowledge_55 rfl ?_
    refine z_geti (c := 9) (k := 2) (g := 1154) z_cb9 (Nat.le_of_ble_eq_true rfl) (Nat.le_of_ble_eq_true rfl) rfl (Nat.le_of_ble_eq_true rfl) zw_193 rfl ha dX9_acknowledge_56 ?_
    refine z_pc (pc' := 59) rfl ?_
    refine z_iconst (v := 1) dX9_acknowledge_59 (by decide) ?_
    refine z_iadd dX9_acknowledge_60 ?_
    refine z_puti (c := 9) (k := 2) (g := 1154) z_cb9 (Nat.le_of_ble_eq_true rfl) (Nat.le_of_ble_eq_true rfl) (Nat.le_of_ble_eq_true rfl) rfl rfl rfl zw_193 rfl ha (Or.inl rfl) dX9_acknowledge_61 ?_
    refine z_nm (fun M_11 g_11 => ?_)
    replace hP := hP M_11 g_11
    have q_11 := z_k1 g_11
    have ha := z_kk q_11 ha
    refine z_sub (lv' := [(0, z_O _), (1, z_I _), (2, z_I _), (3, z_I _)]) [0, 1, 2, 3] rfl ?_
    exact v_X9_acknowledge_64 hJ6 ha hP
set_option maxRecDepth 100000 in
set_option maxHeartbeats 4000000 in
theorem v_X9_acknowledge_6 {G : z_G} {M0 : z_Mem} {a : Nat} {Post : z_Mem → Prop}   : ∀ (n : Nat) {x1 : Int32} {x2 : Int32} {x3 : Int32} {M : z_Mem}, (z_ki M a = 10) → P_X9_acknowledge_6 a Post n x1 x2 x3 M → z_V G Y_X9_acknowledge z_X0 M0 (z_QM G M0 (z_PV Post)) M 6 [(0, z_O (some a)), (1, z_I x1), (2, z_I x2), (3, z_I x3)] [] := by
  intro n
  induction n with
  | zero => intro x1 x2 x3 M ha hP; exact False.elim hP
  | succ n ih =>
    intro x1 x2 x3 M ha hP
    unfold P_X9_acknowledge_6 at hP
    refine z_iload_n dX9_acknowledge_6 rfl 3 rfl ?_
    refine z_iload_n dX9_acknowledge_7 rfl 1 rfl ?_
    refine z_iload_n dX9_acknowledge_8 rfl 2 rfl ?_
    refine z_iadd dX9_acknowledge_9 ?_
    refine z_icmp_ge (tgt := 70) dX9_acknowledge_10 (by decide) (fun h12 => ?_) (fun h12 => ?_)
    · replace hP := hP.1 h12
      exact z_retv rfl dX9_acknowledge_70 hP
    · replace hP := hP.2 h12
      refine z_iload_n dX9_acknowledge_13 rfl 3 rfl ?_
      refine z_sipush (v := 200) dX9_acknowledge_14 (by decide) ?_
      refine z_pc (pc' := 17) rfl ?_
      refine z_icmp_ge (tgt := 70) dX9_acknowledge_17 (by decide) (fun h13 => ?_) (fun h13 => ?_)
      · replace hP := hP.1 h13
        exact z_retv rfl dX9_acknowledge_70 hP
      · replace hP := hP.2 h13
        refine z_aload_n dX9_acknowledge_20 rfl 0 rfl ?_
        refine z_iload_n dX9_acknowledge_21 rfl 3 rfl ?_
        refine z_wts (fun hT14 _ => ?_)
        refine z_cVb (c := 9) (n := 1) (Y1 := Y_X9_isLost) (st := []) rfl ha z_cb9 (Nat.le_of_ble_eq_true rfl) rfl (s_X9_isLost ha hP) rfl ⟨z_dc_X9_isLost, ⟨(Nat.le_of_ble_eq_true rfl), (Nat.le_of_ble_eq_true rfl)⟩, (Nat.le_of_ble_eq_true rfl)⟩ rfl zw_951 zw_952 zw_953 zw_7 zw_954 dX9_acknowledge_22 (fun x_14 M_14 b14 hP _ x14 => ?_)
        have ha := x14.k (k := 9) hT14 ha
        refine z_if_eq (tgt := 38) dX9_acknowledge_25 (by decide) (fun h15 => ?_) (fun h15 => ?_)
        · replace hP := hP.1 h15
          refine z_sub (lv' := [(0, z_O _), (1, z_I _), (2, z_I _), (3, z_I _)]) [0, 1, 2, 3] rfl ?_
          exact v_X9_acknowledge_38 (fun _ _ _ _ w0 hP => ih w0 hP) ha hP
        · replace hP := hP.2 h15
          refine z_aload_n dX9_acknowledge_28 rfl 0 rfl ?_
          refine z_dup dX9_acknowledge_29 rfl ?_
          refine z_geti (c := 9) (k := 3) (g := 1155) z_cb9 (Nat.le_of_ble_eq_true rfl) (Nat.le_of_ble_eq_true rfl) rfl (Nat.le_of_ble_eq_true rfl) zw_195 rfl ha dX9_acknowledge_30 ?_
          refine z_pc (pc' := 33) rfl ?_
          refine z_iconst (v := 1) dX9_acknowledge_33 (by decide) ?_
          refine z_isub dX9_acknowledge_34 ?_
          refine z_puti (c := 9) (k := 3) (g := 1155) z_cb9 (Nat.le_of_ble_eq_true rfl) (Nat.le_of_ble_eq_true rfl) (Nat.le_of_ble_eq_true rfl) rfl rfl rfl zw_195 rfl ha (Or.inl rfl) dX9_acknowledge_35 ?_
          refine z_nm (fun M_17 g_17 => ?_)
          replace hP := hP M_17 g_17
          have q_17 := z_k1 g_17
          have ha := z_kk q_17 ha
          refine z_sub (lv' := [(0, z_O _), (1, z_I _), (2, z_I _), (3, z_I _)]) [0, 1, 2, 3] rfl ?_
          exact v_X9_acknowledge_38 (fun _ _ _ _ w0 hP => ih w0 hP) ha hP
set_option maxRecDepth 100000 in
set_option maxHeartbeats 4000000 in
theorem s_X9_acknowledge {G : z_G} {M : z_Mem} {a : Nat} {p1 : Int32} {p2 : Int32} {Post : z_Mem → Prop} (ha : z_ki M a = 10) (hP : P_X9_acknowledge a p1 p2 M Post) : z_Mt G Y_X9_acknowledge M [z_O (some a), z_I p1, z_I p2] (z_PV Post) := by
  refine z_ofV (by decide) (Nat.le_of_ble_eq_true rfl) ?_
  unfold P_X9_acknowledge at hP
  refine z_sub (lv' := [(0, z_O (some a)), (1, z_I p1), (2, z_I p2)]) [0, 1, 2] rfl ?_
  refine z_iconst (v := 0) dX9_acknowledge_0 (by decide) ?_
  refine z_iload_n dX9_acknowledge_1 rfl 1 rfl ?_
  refine z_mmax zw_950 zw_102 zw_5 zw_103 dX9_acknowledge_2 (Nat.le_of_ble_eq_true rfl) (Nat.le_of_ble_eq_true rfl) ?_
  refine z_topi (fun x_18 y_18 => ?_)
  replace hP := hP x_18 y_18
  refine z_istore_n (lv' := [(3, z_I _), (0, z_O _), (1, z_I _), (2, z_I _)]) dX9_acknowledge_5 rfl (Nat.le_of_ble_eq_true rfl) rfl ?_
  obtain ⟨n19, hP⟩ := hP
  refine z_sub (lv' := [(0, z_O _), (1, z_I _), (2, z_I _), (3, z_I _)]) [1, 2, 3, 0] rfl ?_
  exact v_X9_acknowledge_6  n19 ha hP
def P_X9_land_48 (a : Nat) (Post : z_Mem → Prop) (J6 : Int32 → Int32 → Int32 → z_Mem → Prop) (x1 : Int32) (x2 : Int32) (x3 : Int32) (M : z_Mem) : Prop := ∀ x_1 : Int32, x_1 = x3 + 1 → (J6 x1 x2 x_1 M)
set_option maxRecDepth 100000 in
def P_X9_land_6 (a : Nat) (Post : z_Mem → Prop)  : Nat → Int32 → Int32 → Int32 → z_Mem → Prop
  | 0, _, _, _, _ => False
  | n + 1, x1, x2, x3, M => (((x1 + x2) ≤ x3 → Post M) ∧ (¬ (x1 + x2) ≤ x3 → ((200 ≤ x3 → Post M) ∧ (¬ 200 ≤ x3 → z_nn (z_fr M 1160 a) fun a5 => (vp_in x3 (z_ln M a5) ∧ (vp_in x3 (z_ln M a5) ∧ (∀ M_8 : z_Mem, M_8 = z_sai M a5 ((x3 : Int32).toNatClampNeg) ((z_ai M a5 ((x3 : Int32).toNatClampNeg)) - 1) → (P_X9_isLost a x3 M_8 fun x_9 M_9 => (((x_9 = 0 → P_X9_land_48 a Post (fun q0 q1 q2 qM => P_X9_land_6 a Post n q0 q1 q2 qM) x1 x2 x3 M_9) ∧ (¬ x_9 = 0 → ∀ M_12 : z_Mem, M_12 = z_sfi M_9 1155 a ((z_fi M_9 1155 a) + 1) → (P_X9_land_48 a Post (fun q0 q1 q2 qM => P_X9_land_6 a Post n q0 q1 q2 qM) x1 x2 x3 M_12))))))))))))
set_option maxRecDepth 100000 in
def P_X9_land (a : Nat) (p1 : Int32) (p2 : Int32) (M : z_Mem) (Post : z_Mem → Prop) : Prop := ∀ x_13 : Int32, x_13 = ((if 0 < p1 then p1 else 0) : Int32) → ((∃ n14 : Nat, P_X9_land_6 a Post n14 p1 p2 x_13 M))
set_option maxRecDepth 100000 in
set_option maxHeartbeats 4000000 in
theorem v_X9_land_48 {G : z_G} {M0 : z_Mem} {a : Nat} {Post : z_Mem → Prop} {J6 : Int32 → Int32 → Int32 → z_Mem → Prop} (hJ6 : ∀ (x1 : Int32) (x2 : Int32) (x3 : Int32) (M : z_Mem), (z_ki M a = 10) → J6 x1 x2 x3 M → z_V G Y_X9_land z_X0 M0 (z_QM G M0 (z_PV Post)) M 6 [(0, z_O (some a)), (1, z_I x1), (2, z_I x2), (3, z_I x3)] []) {x1 : Int32} {x2 : Int32} {x3 : Int32} {M : z_Mem} (ha : z_ki M a = 10) (hP : P_X9_land_48 a Post J6 x1 x2 x3 M) : z_V G Y_X9_land z_X0 M0 (z_QM G M0 (z_PV Post)) M 48 [(0, z_O (some a)), (1, z_I x1), (2, z_I x2), (3, z_I x3)] [] := by
  unfold P_X9_land_48 at hP
  refine z_iincN (j := 3) (m := 1) (lv' := fun v => [(3, z_I v), (0, z_O _), (1, z_I _), (2, z_I _)]) dX9_land_48 rfl (by decide) (Nat.le_of_ble_eq_true rfl) (fun _ => rfl) (fun x_1 y_1 => ?_)
  replace hP := hP x_1 y_1
  refine z_goto (tgt := 6) dX9_land_51 (by decide) ?_
  refine z_sub (lv' := [(0, z_O _), (1, z_I _), (2, z_I _), (3, z_I _)]) [1, 2, 3, 0] rfl ?_
  exact hJ6 _ _ _ _ ha hP
set_option maxRecDepth 100000 in
set_option maxHeartbeats 4000000 in
theorem v_X9_land_6 {G : z_G} {M0 : z_Mem} {a : Nat} {Post : z_Mem → Prop}   : ∀ (n : Nat) {x1 : Int32} {x2 : Int32} {x3 : Int32} {M : z_Mem}, (z_ki M a = 10) → P_X9_land_6 a Post n x1 x2 x3 M → z_V G Y_X9_land z_X0 M0 (z_QM G M0 (z_PV Post)) M 6 [(0, z_O (some a)), (1, z_I x1), (2, z_I x2), (3, z_I x3)] [] := by
  intro n
  induction n with
  | zero => intro x1 x2 x3 M ha hP; exact False.elim hP
  | succ n ih =>
    intro x1 x2 x3 M ha hP
    unfold P_X9_land_6 at hP
    refine z_iload_n dX9_land_6 rfl 3 rfl ?_
    refine z_iload_n dX9_land_7 rfl 1 rfl ?_
    refine z_iload_n dX9_land_8 rfl 2 rfl ?_
    refine z_iadd dX9_land_9 ?_
    refine z_icmp_ge (tgt := 54) dX9_land_10 (by decide) (fun h2 => ?_) (fun h2 => ?_)
    · replace hP := hP.1 h2
      exact z_retv rfl dX9_land_54 hP
    · replace hP := hP.2 h2
      refine z_iload_n dX9_land_13 rfl 3 rfl ?_
      refine z_sipush (v := 200) dX9_land_14 (by decide) ?_
      refine z_pc (pc' := 17) rfl ?_
      refine z_icmp_ge (tgt := 54) dX9_land_17 (by decide) (fun h3 => ?_) (fun h3 => ?_)
      · replace hP := hP.1 h3
        exact z_retv rfl dX9_land_54 hP
      · replace hP := hP.2 h3
        refine z_aload_n dX9_land_20 rfl 0 rfl ?_
        refine z_getr (c := 9) (k := 8) (g := 1160) (t := 20) z_cb9 (Nat.le_of_ble_eq_true rfl) (Nat.le_of_ble_eq_true rfl) rfl rfl zw_207 rfl ha dX9_land_21 (fun f4 => ?_)
        refine z_iload_n dX9_land_24 rfl 3 rfl ?_
        refine z_dup2 dX9_land_25 rfl rfl ?_
        obtain ⟨a5, e5, hP⟩ := hP
        have k5 := f4 a5 e5
        obtain ⟨i6, hP⟩ := hP
        refine z_iald e5 k5 i6 dX9_land_26 ?_
        refine z_iconst (v := 1) dX9_land_27 (by decide) ?_
        refine z_pc (pc' := 28) rfl ?_
        refine z_isub dX9_land_28 ?_
        obtain ⟨i7, hP⟩ := hP
        refine z_iast e5 k5 i7 dX9_land_29 ?_
        refine z_nm (fun M_8 g_8 => ?_)
        replace hP := hP M_8 g_8
        have q_8 := z_k3 g_8
        have ha := z_kk q_8 ha
        refine z_aload_n dX9_land_30 rfl 0 rfl ?_
        refine z_iload_n dX9_land_31 rfl 3 rfl ?_
        refine z_wts (fun hT9 _ => ?_)
        refine z_cVb (c := 9) (n := 1) (Y1 := Y_X9_isLost) (st := []) rfl ha z_cb9 (Nat.le_of_ble_eq_true rfl) rfl (s_X9_isLost ha hP) rfl ⟨z_dc_X9_isLost, ⟨(Nat.le_of_ble_eq_true rfl), (Nat.le_of_ble_eq_true rfl)⟩, (Nat.le_of_ble_eq_true rfl)⟩ rfl zw_951 zw_952 zw_953 zw_7 zw_954 dX9_land_32 (fun x_9 M_9 b9 hP _ x9 => ?_)
        have ha := x9.k (k := 9) hT9 ha
        refine z_if_eq (tgt := 48) dX9_land_35 (by decide) (fun h10 => ?_) (fun h10 => ?_)
        · replace hP := hP.1 h10
          refine z_sub (lv' := [(0, z_O _), (1, z_I _), (2, z_I _), (3, z_I _)]) [0, 1, 2, 3] rfl ?_
          exact v_X9_land_48 (fun _ _ _ _ w0 hP => ih w0 hP) ha hP
        · replace hP := hP.2 h10
          refine z_aload_n dX9_land_38 rfl 0 rfl ?_
          refine z_pc (pc' := 39) rfl ?_
          refine z_dup dX9_land_39 rfl ?_
          refine z_geti (c := 9) (k := 3) (g := 1155) z_cb9 (Nat.le_of_ble_eq_true rfl) (Nat.le_of_ble_eq_true rfl) rfl (Nat.le_of_ble_eq_true rfl) zw_195 rfl ha dX9_land_40 ?_
          refine z_iconst (v := 1) dX9_land_43 (by decide) ?_
          refine z_iadd dX9_land_44 ?_
          refine z_puti (c := 9) (k := 3) (g := 1155) z_cb9 (Nat.le_of_ble_eq_true rfl) (Nat.le_of_ble_eq_true rfl) (Nat.le_of_ble_eq_true rfl) rfl rfl rfl zw_195 rfl ha (Or.inl rfl) dX9_land_45 ?_
          refine z_nm (fun M_12 g_12 => ?_)
          replace hP := hP M_12 g_12
          have q_12 := z_k1 g_12
          have ha := z_kk q_12 ha
          refine z_sub (lv' := [(0, z_O _), (1, z_I _), (2, z_I _), (3, z_I _)]) [0, 1, 2, 3] rfl ?_
          exact v_X9_land_48 (fun _ _ _ _ w0 hP => ih w0 hP) ha hP
set_option maxRecDepth 100000 in
set_option maxHeartbeats 4000000 in
theorem s_X9_land {G : z_G} {M : z_Mem} {a : Nat} {p1 : Int32} {p2 : Int32} {Post : z_Mem → Prop} (ha : z_ki M a = 10) (hP : P_X9_land a p1 p2 M Post) : z_Mt G Y_X9_land M [z_O (some a), z_I p1, z_I p2] (z_PV Post) := by
  refine z_ofV (by decide) (Nat.le_of_ble_eq_true rfl) ?_
  unfold P_X9_land at hP
  refine z_sub (lv' := [(0, z_O (some a)), (1, z_I p1), (2, z_I p2)]) [0, 1, 2] rfl ?_
  refine z_iconst (v := 0) dX9_land_0 (by decide) ?_
  refine z_iload_n dX9_land_1 rfl 1 rfl ?_
  refine z_mmax zw_950 zw_102 zw_5 zw_103 dX9_land_2 (Nat.le_of_ble_eq_true rfl) (Nat.le_of_ble_eq_true rfl) ?_
  refine z_topi (fun x_13 y_13 => ?_)
  replace hP := hP x_13 y_13
  refine z_istore_n (lv' := [(3, z_I _), (0, z_O _), (1, z_I _), (2, z_I _)]) dX9_land_5 rfl (Nat.le_of_ble_eq_true rfl) rfl ?_
  obtain ⟨n14, hP⟩ := hP
  refine z_sub (lv' := [(0, z_O _), (1, z_I _), (2, z_I _), (3, z_I _)]) [1, 2, 3, 0] rfl ?_
  exact v_X9_land_6  n14 ha hP
def P_X1_leaveFlight_62 (a : Nat) (Post : z_Mem → Prop)  (x1 : Option Nat) (M : z_Mem) : Prop := z_nn x1 fun a2 => (z_nn (z_fr M 129 a) fun a4 => (vp_in (z_fi M 771 a2) (z_ln M a4) ∧ (z_nn (z_ar M a4 (((z_fi M 771 a2) : Int32).toNatClampNeg)) fun a9 => (P_X9_land a9 (z_fi M 772 a2) (z_fi M 773 a2) M fun M_8 => (Post M_8)))))
set_option maxRecDepth 100000 in
def P_X1_leaveFlight (a : Nat) (p1 : Option Nat) (p2 : Int32) (M : z_Mem) (Post : z_Mem → Prop) : Prop := z_nn p1 fun a10 => (∀ M_11 : z_Mem, M_11 = z_sfi M 778 a10 p2 → (P_X1_routeOf a (z_fi M_11 769 a10) M_11 fun x_13 M_13 => (z_nn x_13 fun a14 => (∀ M_16 : z_Mem, M_16 = z_sfi M_13 899 a14 ((z_fi M_13 899 a14) - 1) → ((((z_fi M_16 771 a10) < 0 → Post M_16) ∧ (¬ (z_fi M_16 771 a10) < 0 → ((4 ≤ (z_fi M_16 771 a10) → Post M_16) ∧ (¬ 4 ≤ (z_fi M_16 771 a10) → ((p2 = 1 → z_nn (z_fr M_16 129 a) fun a24 => (vp_in (z_fi M_16 771 a10) (z_ln M_16 a24) ∧ (z_nn (z_ar M_16 a24 (((z_fi M_16 771 a10) : Int32).toNatClampNeg)) fun a29 => (P_X9_acknowledge a29 (z_fi M_16 772 a10) (z_fi M_16 773 a10) M_16 fun M_28 => (P_X1_leaveFlight_62 a Post p1 M_28))))) ∧ (¬ p2 = 1 → P_X1_leaveFlight_62 a Post p1 M_16)))))))))))
set_option maxRecDepth 100000 in
set_option maxHeartbeats 4000000 in
theorem v_X1_leaveFlight_62 {G : z_G} {M0 : z_Mem} {a : Nat} {Post : z_Mem → Prop}   {x1 : Option Nat} {M : z_Mem} (ha : z_ki M a = 2) (f_x1 : z_tr M x1 7) (hP : P_X1_leaveFlight_62 a Post x1 M) : z_V G Y_X1_leaveFlight z_X0 M0 (z_QM G M0 (z_PV Post)) M 62 [(0, z_O (some a)), (1, z_O x1)] [] := by
  unfold P_X1_leaveFlight_62 at hP
  refine z_aload_n dX1_leaveFlight_62 rfl 0 rfl ?_
  refine z_getr (c := 1) (k := 1) (g := 129) (t := 24) z_cb1 (Nat.le_of_ble_eq_true rfl) (Nat.le_of_ble_eq_true rfl) rfl rfl zw_426 rfl ha dX1_leaveFlight_63 (fun f1 => ?_)
  refine z_aload_n dX1_leaveFlight_66 rfl 1 rfl ?_
  obtain ⟨a2, e2, hP⟩ := hP
  have k2 := f_x1 a2 e2
  refine z_geti (c := 6) (k := 3) (g := 771) z_cb6 (Nat.le_of_ble_eq_true rfl) (Nat.le_of_ble_eq_true rfl) rfl (Nat.le_of_ble_eq_true rfl) zw_1069 e2 k2 dX1_leaveFlight_67 ?_
  obtain ⟨a4, e4, hP⟩ := hP
  have k4 := f1 a4 e4
  obtain ⟨i5, hP⟩ := hP
  refine z_aald (t := 24) e4 k4 (Nat.le_of_ble_eq_true rfl) (Nat.le_of_ble_eq_true rfl) i5 dX1_leaveFlight_70 (fun f5 => ?_)
  refine z_aload_n dX1_leaveFlight_71 rfl 1 rfl ?_
  refine z_pc (pc' := 72) rfl ?_
  refine z_geti (c := 6) (k := 4) (g := 772) z_cb6 (Nat.le_of_ble_eq_true rfl) (Nat.le_of_ble_eq_true rfl) rfl (Nat.le_of_ble_eq_true rfl) zw_1073 e2 k2 dX1_leaveFlight_72 ?_
  refine z_aload_n dX1_leaveFlight_75 rfl 1 rfl ?_
  refine z_geti (c := 6) (k := 5) (g := 773) z_cb6 (Nat.le_of_ble_eq_true rfl) (Nat.le_of_ble_eq_true rfl) rfl (Nat.le_of_ble_eq_true rfl) zw_1077 e2 k2 dX1_leaveFlight_76 ?_
  obtain ⟨a9, e9, hP⟩ := hP
  have k9 := f5 a9 e9
  refine z_wts (fun hT8 _ => ?_)
  refine z_cVv (c := 9) (n := 2) (Y1 := Y_X9_land) (st := []) e9 k9 z_cb9 (Nat.le_of_ble_eq_true rfl) rfl (s_X9_land k9 hP) rfl ⟨z_dc_X9_land, ⟨(Nat.le_of_ble_eq_true rfl), (Nat.le_of_ble_eq_true rfl)⟩, (Nat.le_of_ble_eq_true rfl)⟩ rfl zw_955 zw_956 zw_957 zw_7 zw_958 dX1_leaveFlight_79 (fun M_8 hP _ x8 => ?_)
  have ha := x8.k (k := 1) hT8 ha
  have k2 := x8.k (k := 6) hT8 k2
  exact z_retv rfl dX1_leaveFlight_82 hP
set_option maxRecDepth 100000 in
set_option maxHeartbeats 4000000 in
theorem s_X1_leaveFlight {G : z_G} {M : z_Mem} {a : Nat} {p1 : Option Nat} {p2 : Int32} {Post : z_Mem → Prop} (ha : z_ki M a = 2) (f_p1 : z_tr M p1 7) (hP : P_X1_leaveFlight a p1 p2 M Post) : z_Mt G Y_X1_leaveFlight M [z_O (some a), z_O p1, z_I p2] (z_PV Post) := by
  refine z_ofV (by decide) (Nat.le_of_ble_eq_true rfl) ?_
  unfold P_X1_leaveFlight at hP
  refine z_sub (lv' := [(0, z_O (some a)), (1, z_O p1), (2, z_I p2)]) [0, 1, 2] rfl ?_
  refine z_aload_n dX1_leaveFlight_0 rfl 1 rfl ?_
  refine z_iload_n dX1_leaveFlight_1 rfl 2 rfl ?_
  obtain ⟨a10, e10, hP⟩ := hP
  have k10 := f_p1 a10 e10
  refine z_puti (c := 6) (k := 10) (g := 778) z_cb6 (Nat.le_of_ble_eq_true rfl) (Nat.le_of_ble_eq_true rfl) (Nat.le_of_ble_eq_true rfl) rfl rfl rfl zw_1092 e10 k10 (Or.inl rfl) dX1_leaveFlight_2 ?_
  refine z_nm (fun M_11 g_11 => ?_)
  replace hP := hP M_11 g_11
  have q_11 := z_k1 g_11
  have ha := z_kk q_11 ha
  have k10 := z_kk q_11 k10
  refine z_aload_n dX1_leaveFlight_5 rfl 0 rfl ?_
  refine z_aload_n dX1_leaveFlight_6 rfl 1 rfl ?_
  refine z_geti (c := 6) (k := 1) (g := 769) z_cb6 (Nat.le_of_ble_eq_true rfl) (Nat.le_of_ble_eq_true rfl) rfl (Nat.le_of_ble_eq_true rfl) zw_1061 e10 k10 dX1_leaveFlight_7 ?_
  refine z_pc (pc' := 10) rfl ?_
  refine z_wts (fun hT13 _ => ?_)
  refine z_cVo (c := 1) (n := 1) (Y1 := Y_X1_routeOf) (st := []) rfl ha z_cb1 (Nat.le_of_ble_eq_true rfl) rfl (s_X1_routeOf ha hP) rfl ⟨z_dc_X1_routeOf, ⟨(Nat.le_of_ble_eq_true rfl), (Nat.le_of_ble_eq_true rfl)⟩, (Nat.le_of_ble_eq_true rfl)⟩ rfl zw_929 zw_818 zw_819 zw_9 zw_820 dX1_leaveFlight_10 (fun x_13 M_13 f13 hP _ x13 => ?_)
  have ha := x13.k (k := 1) hT13 ha
  have k10 := x13.k (k := 6) hT13 k10
  refine z_dup dX1_leaveFlight_13 rfl ?_
  obtain ⟨a14, e14, hP⟩ := hP
  have k14 := f13 a14 e14
  refine z_geti (c := 7) (k := 3) (g := 899) z_cb7 (Nat.le_of_ble_eq_true rfl) (Nat.le_of_ble_eq_true rfl) rfl (Nat.le_of_ble_eq_true rfl) zw_358 e14 k14 dX1_leaveFlight_14 ?_
  refine z_iconst (v := 1) dX1_leaveFlight_17 (by decide) ?_
  refine z_isub dX1_leaveFlight_18 ?_
  refine z_puti (c := 7) (k := 3) (g := 899) z_cb7 (Nat.le_of_ble_eq_true rfl) (Nat.le_of_ble_eq_true rfl) (Nat.le_of_ble_eq_true rfl) rfl rfl rfl zw_358 e14 k14 (Or.inl rfl) dX1_leaveFlight_19 ?_
  refine z_nm (fun M_16 g_16 => ?_)
  replace hP := hP M_16 g_16
  have q_16 := z_k1 g_16
  have ha := z_kk q_16 ha
  have k10 := z_kk q_16 k10
  refine z_pc (pc' := 22) rfl ?_
  refine z_aload_n dX1_leaveFlight_22 rfl 1 rfl ?_
  refine z_geti (c := 6) (k := 3) (g := 771) z_cb6 (Nat.le_of_ble_eq_true rfl) (Nat.le_of_ble_eq_true rfl) rfl (Nat.le_of_ble_eq_true rfl) zw_1069 e10 k10 dX1_leaveFlight_23 ?_
  refine z_if_lt (tgt := 82) dX1_leaveFlight_26 (by decide) (fun h18 => ?_) (fun h18 => ?_)
  · replace hP := hP.1 h18
    exact z_retv rfl dX1_leaveFlight_82 hP
  · replace hP := hP.2 h18
    refine z_aload_n dX1_leaveFlight_29 rfl 1 rfl ?_
    refine z_geti (c := 6) (k := 3) (g := 771) z_cb6 (Nat.le_of_ble_eq_true rfl) (Nat.le_of_ble_eq_true rfl) rfl (Nat.le_of_ble_eq_true rfl) zw_1069 e10 k10 dX1_leaveFlight_30 ?_
    refine z_iconst (v := 4) dX1_leaveFlight_33 (by decide) ?_
    refine z_icmp_ge (tgt := 82) dX1_leaveFlight_34 (by decide) (fun h20 => ?_) (fun h20 => ?_)
    · replace hP := hP.1 h20
      exact z_retv rfl dX1_leaveFlight_82 hP
    · replace hP := hP.2 h20
      refine z_iload_n dX1_leaveFlight_37 rfl 2 rfl ?_
      refine z_pc (pc' := 38) rfl ?_
      refine z_iconst (v := 1) dX1_leaveFlight_38 (by decide) ?_
      refine z_icmp_ne (tgt := 62) dX1_leaveFlight_39 (by decide) (fun h21 => ?_) (fun h21 => ?_)
      · replace hP := hP.2 h21
        refine z_sub (lv' := [(0, z_O _), (1, z_O _)]) [0, 1] rfl ?_
        exact v_X1_leaveFlight_62  ha (z_trn e10 k10) hP
      · replace hP := hP.1 h21
        refine z_aload_n dX1_leaveFlight_42 rfl 0 rfl ?_
        refine z_getr (c := 1) (k := 1) (g := 129) (t := 24) z_cb1 (Nat.le_of_ble_eq_true rfl) (Nat.le_of_ble_eq_true rfl) rfl rfl zw_426 rfl ha dX1_leaveFlight_43 (fun f22 => ?_)
        refine z_aload_n dX1_leaveFlight_46 rfl 1 rfl ?_
        refine z_geti (c := 6) (k := 3) (g := 771) z_cb6 (Nat.le_of_ble_eq_true rfl) (Nat.le_of_ble_eq_true rfl) rfl (Nat.le_of_ble_eq_true rfl) zw_1069 e10 k10 dX1_leaveFlight_47 ?_
        obtain ⟨a24, e24, hP⟩ := hP
        have k24 := f22 a24 e24
        obtain ⟨i25, hP⟩ := hP
        refine z_aald (t := 24) e24 k24 (Nat.le_of_ble_eq_true rfl) (Nat.le_of_ble_eq_true rfl) i25 dX1_leaveFlight_50 (fun f25 => ?_)
        refine z_pc (pc' := 51) rfl ?_
        refine z_aload_n dX1_leaveFlight_51 rfl 1 rfl ?_
        refine z_geti (c := 6) (k := 4) (g := 772) z_cb6 (Nat.le_of_ble_eq_true rfl) (Nat.le_of_ble_eq_true rfl) rfl (Nat.le_of_ble_eq_true rfl) zw_1073 e10 k10 dX1_leaveFlight_52 ?_
        refine z_aload_n dX1_leaveFlight_55 rfl 1 rfl ?_
        refine z_geti (c := 6) (k := 5) (g := 773) z_cb6 (Nat.le_of_ble_eq_true rfl) (Nat.le_of_ble_eq_true rfl) rfl (Nat.le_of_ble_eq_true rfl) zw_1077 e10 k10 dX1_leaveFlight_56 ?_
        obtain ⟨a29, e29, hP⟩ := hP
        have k29 := f25 a29 e29
        refine z_wts (fun hT28 _ => ?_)
        refine z_cVv (c := 9) (n := 2) (Y1 := Y_X9_acknowledge) (st := []) e29 k29 z_cb9 (Nat.le_of_ble_eq_true rfl) rfl (s_X9_acknowledge k29 hP) rfl ⟨z_dc_X9_acknowledge, ⟨(Nat.le_of_ble_eq_true rfl), (Nat.le_of_ble_eq_true rfl)⟩, (Nat.le_of_ble_eq_true rfl)⟩ rfl zw_946 zw_947 zw_948 zw_7 zw_949 dX1_leaveFlight_59 (fun M_28 hP _ x28 => ?_)
        have ha := x28.k (k := 1) hT28 ha
        have k10 := x28.k (k := 6) hT28 k10
        refine z_sub (lv' := [(0, z_O _), (1, z_O _)]) [0, 1] rfl ?_
        exact v_X1_leaveFlight_62  ha (z_trn e10 k10) hP
def P_X1_hearAccept_71 (a : Nat) (Post : z_Mem → Prop) (J29 : Int32 → Int32 → z_Mem → Prop) (x1 : Int32) (x2 : Int32) (M : z_Mem) : Prop := ∀ x_1 : Int32, x_1 = x2 + 1 → (J29 x1 x_1 M)
set_option maxRecDepth 100000 in
def P_X1_hearAccept_29 (a : Nat) (Post : z_Mem → Prop)  : Nat → Int32 → Int32 → z_Mem → Prop
  | 0, _, _, _ => False
  | n + 1, x1, x2, M => (((z_fi M 133 a) ≤ x2 → Post M) ∧ (¬ (z_fi M 133 a) ≤ x2 → ((x1 = 0 → P_X1_packetAt a x2 M fun x_5 M_5 => (((x_5 = none → P_X1_hearAccept_71 a Post (fun q0 q1 qM => P_X1_hearAccept_29 a Post n q0 q1 qM) x1 x2 M_5) ∧ (∀ a6 : Nat, x_5 = some a6 → (((z_fi M_5 776 a6) = 0 → P_X1_hearAccept_71 a Post (fun q0 q1 qM => P_X1_hearAccept_29 a Post n q0 q1 qM) x1 x2 M_5) ∧ (¬ (z_fi M_5 776 a6) = 0 → (((z_fi M_5 778 a6) = 0 → P_X1_leaveFlight a x_5 4 M_5 fun M_11 => (P_X1_hearAccept_71 a Post (fun q0 q1 qM => P_X1_hearAccept_29 a Post n q0 q1 qM) x1 x2 M_11)) ∧ (¬ (z_fi M_5 778 a6) = 0 → P_X1_hearAccept_71 a Post (fun q0 q1 qM => P_X1_hearAccept_29 a Post n q0 q1 qM) x1 x2 M_5)))))))) ∧ (¬ x1 = 0 → Post M))))
set_option maxRecDepth 100000 in
def P_X1_hearAccept (a : Nat) (p1 : Int32) (M : z_Mem) (Post : z_Mem → Prop) : Prop := ∀ M_12 : z_Mem, M_12 = z_sfi M 135 a 2 → (z_nn (z_fr M_12 128 a) fun a15 => (z_nn (z_fr M_12 130 a) fun a19 => (P_X7_measure a19 ((z_fi M_12 645 a15) - (z_fi M_12 139 a)) M_12 fun M_18 => (∀ x_21 : Int32, x_21 = (z_fi M_18 134 a) → ((∃ n22 : Nat, P_X1_hearAccept_29 a Post n22 p1 x_21 M_18))))))
set_option maxRecDepth 100000 in
set_option maxHeartbeats 4000000 in
theorem v_X1_hearAccept_71 {G : z_G} {M0 : z_Mem} {a : Nat} {Post : z_Mem → Prop} {J29 : Int32 → Int32 → z_Mem → Prop} (hJ29 : ∀ (x1 : Int32) (x2 : Int32) (M : z_Mem), (z_ki M a = 2) → (x1 = 0 ∨ x1 = 1) → J29 x1 x2 M → z_V G Y_X1_hearAccept z_X0 M0 (z_QM G M0 (z_PV Post)) M 29 [(0, z_O (some a)), (1, z_I x1), (2, z_I x2)] []) {x1 : Int32} {x2 : Int32} {M : z_Mem} (ha : z_ki M a = 2) (f_x1 : x1 = 0 ∨ x1 = 1) (hP : P_X1_hearAccept_71 a Post J29 x1 x2 M) : z_V G Y_X1_hearAccept z_X0 M0 (z_QM G M0 (z_PV Post)) M 71 [(0, z_O (some a)), (1, z_I x1), (2, z_I x2)] [] := by
  unfold P_X1_hearAccept_71 at hP
  refine z_iincN (j := 2) (m := 1) (lv' := fun v => [(2, z_I v), (0, z_O _), (1, z_I _)]) dX1_hearAccept_71 rfl (by decide) (Nat.le_of_ble_eq_true rfl) (fun _ => rfl) (fun x_1 y_1 => ?_)
  replace hP := hP x_1 y_1
  refine z_goto (tgt := 29) dX1_hearAccept_74 (by decide) ?_
  refine z_sub (lv' := [(0, z_O _), (1, z_I _), (2, z_I _)]) [1, 2, 0] rfl ?_
  exact hJ29 _ _ _ ha f_x1 hP
set_option maxRecDepth 100000 in
set_option maxHeartbeats 4000000 in
theorem v_X1_hearAccept_29 {G : z_G} {M0 : z_Mem} {a : Nat} {Post : z_Mem → Prop}   : ∀ (n : Nat) {x1 : Int32} {x2 : Int32} {M : z_Mem}, (z_ki M a = 2) → (x1 = 0 ∨ x1 = 1) → P_X1_hearAccept_29 a Post n x1 x2 M → z_V G Y_X1_hearAccept z_X0 M0 (z_QM G M0 (z_PV Post)) M 29 [(0, z_O (some a)), (1, z_I x1), (2, z_I x2)] [] := by
  intro n
  induction n with
  | zero => intro x1 x2 M ha f_x1 hP; exact False.elim hP
  | succ n ih =>
    intro x1 x2 M ha f_x1 hP
    unfold P_X1_hearAccept_29 at hP
    refine z_iload_n dX1_hearAccept_29 rfl 2 rfl ?_
    refine z_aload_n dX1_hearAccept_30 rfl 0 rfl ?_
    refine z_geti (c := 1) (k := 5) (g := 133) z_cb1 (Nat.le_of_ble_eq_true rfl) (Nat.le_of_ble_eq_true rfl) rfl (Nat.le_of_ble_eq_true rfl) zw_430 rfl ha dX1_hearAccept_31 ?_
    refine z_icmp_ge (tgt := 77) dX1_hearAccept_34 (by decide) (fun h3 => ?_) (fun h3 => ?_)
    · replace hP := hP.1 h3
      exact z_retv rfl dX1_hearAccept_77 hP
    · replace hP := hP.2 h3
      refine z_iload_n dX1_hearAccept_37 rfl 1 rfl ?_
      refine z_if_ne (tgt := 77) dX1_hearAccept_38 (by decide) (fun h4 => ?_) (fun h4 => ?_)
      · replace hP := hP.2 h4
        exact z_retv rfl dX1_hearAccept_77 hP
      · replace hP := hP.1 h4
        refine z_aload_n dX1_hearAccept_41 rfl 0 rfl ?_
        refine z_iload_n dX1_hearAccept_42 rfl 2 rfl ?_
        refine z_pc (pc' := 43) rfl ?_
        refine z_wts (fun hT5 _ => ?_)
        refine z_cVo (c := 1) (n := 1) (Y1 := Y_X1_packetAt) (st := []) rfl ha z_cb1 (Nat.le_of_ble_eq_true rfl) rfl (s_X1_packetAt ha hP) rfl ⟨z_dc_X1_packetAt, ⟨(Nat.le_of_ble_eq_true rfl), (Nat.le_of_ble_eq_true rfl)⟩, (Nat.le_of_ble_eq_true rfl)⟩ rfl zw_849 zw_850 zw_851 zw_9 zw_852 dX1_hearAccept_43 (fun x_5 M_5 f5 hP _ x5 => ?_)
        have ha := x5.k (k := 1) hT5 ha
        refine z_astore_n (lv' := [(3, z_O _), (0, z_O _), (1, z_I _), (2, z_I _)]) dX1_hearAccept_46 rfl (Nat.le_of_ble_eq_true rfl) rfl ?_
        refine z_aload_n dX1_hearAccept_47 rfl 0 rfl ?_
        refine z_ifnull (tgt := 71) dX1_hearAccept_48 (by decide) (fun h6 => ?_) (fun a6 e6 => ?_)
        · replace hP := hP.1 h6
          refine z_sub (lv' := [(0, z_O _), (1, z_I _), (2, z_I _)]) [1, 2, 3] rfl ?_
          exact v_X1_hearAccept_71 (fun _ _ _ w0 w1 hP => ih w0 w1 hP) ha f_x1 hP
        · replace hP := hP.2 a6 e6
          have k6 := f5 a6 e6
          refine z_aload_n dX1_hearAccept_51 rfl 0 rfl ?_
          refine z_getb (c := 6) (k := 8) (g := 776) z_cb6 (Nat.le_of_ble_eq_true rfl) (Nat.le_of_ble_eq_true rfl) rfl rfl zw_1086 e6 k6 dX1_hearAccept_52 (fun b7 => ?_)
          refine z_if_eq (tgt := 71) dX1_hearAccept_55 (by decide) (fun h8 => ?_) (fun h8 => ?_)
          · replace hP := hP.1 h8
            refine z_sub (lv' := [(0, z_O _), (1, z_I _), (2, z_I _)]) [1, 2, 3] rfl ?_
            exact v_X1_hearAccept_71 (fun _ _ _ w0 w1 hP => ih w0 w1 hP) ha f_x1 hP
          · replace hP := hP.2 h8
            refine z_aload_n dX1_hearAccept_58 rfl 0 rfl ?_
            refine z_pc (pc' := 59) rfl ?_
            refine z_geti (c := 6) (k := 10) (g := 778) z_cb6 (Nat.le_of_ble_eq_true rfl) (Nat.le_of_ble_eq_true rfl) rfl (Nat.le_of_ble_eq_true rfl) zw_1092 e6 k6 dX1_hearAccept_59 ?_
            refine z_if_ne (tgt := 71) dX1_hearAccept_62 (by decide) (fun h10 => ?_) (fun h10 => ?_)
            · replace hP := hP.2 h10
              refine z_sub (lv' := [(0, z_O _), (1, z_I _), (2, z_I _)]) [1, 2, 3] rfl ?_
              exact v_X1_hearAccept_71 (fun _ _ _ w0 w1 hP => ih w0 w1 hP) ha f_x1 hP
            · replace hP := hP.1 h10
              refine z_aload_n dX1_hearAccept_65 rfl 1 rfl ?_
              refine z_aload_n dX1_hearAccept_66 rfl 0 rfl ?_
              refine z_iconst (v := 4) dX1_hearAccept_67 (by decide) ?_
              refine z_wts (fun hT11 _ => ?_)
              refine z_cVv (c := 1) (n := 2) (Y1 := Y_X1_leaveFlight) (st := []) rfl ha z_cb1 (Nat.le_of_ble_eq_true rfl) rfl (s_X1_leaveFlight ha (z_trn e6 k6) hP) rfl ⟨z_dc_X1_leaveFlight, ⟨(Nat.le_of_ble_eq_true rfl), (Nat.le_of_ble_eq_true rfl)⟩, (Nat.le_of_ble_eq_true rfl)⟩ rfl zw_942 zw_944 zp_13 zw_9 zw_945 dX1_hearAccept_68 (fun M_11 hP _ x11 => ?_)
              have ha := x11.k (k := 1) hT11 ha
              have k6 := x11.k (k := 6) hT11 k6
              refine z_sub (lv' := [(0, z_O _), (1, z_I _), (2, z_I _)]) [1, 2, 3] rfl ?_
              exact v_X1_hearAccept_71 (fun _ _ _ w0 w1 hP => ih w0 w1 hP) ha f_x1 hP
set_option maxRecDepth 100000 in
set_option maxHeartbeats 4000000 in
theorem s_X1_hearAccept {G : z_G} {M : z_Mem} {a : Nat} {p1 : Int32} {Post : z_Mem → Prop} (ha : z_ki M a = 2) (f_p1 : p1 = 0 ∨ p1 = 1) (hP : P_X1_hearAccept a p1 M Post) : z_Mt G Y_X1_hearAccept M [z_O (some a), z_I p1] (z_PV Post) := by
  refine z_ofV (by decide) (Nat.le_of_ble_eq_true rfl) ?_
  unfold P_X1_hearAccept at hP
  refine z_sub (lv' := [(0, z_O (some a)), (1, z_I p1)]) [0, 1] rfl ?_
  refine z_aload_n dX1_hearAccept_0 rfl 0 rfl ?_
  refine z_iconst (v := 2) dX1_hearAccept_1 (by decide) ?_
  refine z_puti (c := 1) (k := 7) (g := 135) z_cb1 (Nat.le_of_ble_eq_true rfl) (Nat.le_of_ble_eq_true rfl) (Nat.le_of_ble_eq_true rfl) rfl rfl rfl zw_433 rfl ha (Or.inl rfl) dX1_hearAccept_2 ?_
  refine z_nm (fun M_12 g_12 => ?_)
  replace hP := hP M_12 g_12
  have q_12 := z_k1 g_12
  have ha := z_kk q_12 ha
  refine z_aload_n dX1_hearAccept_5 rfl 0 rfl ?_
  refine z_getr (c := 1) (k := 2) (g := 130) (t := 8) z_cb1 (Nat.le_of_ble_eq_true rfl) (Nat.le_of_ble_eq_true rfl) rfl rfl zw_427 rfl ha dX1_hearAccept_6 (fun f13 => ?_)
  refine z_aload_n dX1_hearAccept_9 rfl 0 rfl ?_
  refine z_pc (pc' := 10) rfl ?_
  refine z_getr (c := 1) (k := 0) (g := 128) (t := 6) z_cb1 (Nat.le_of_ble_eq_true rfl) (Nat.le_of_ble_eq_true rfl) rfl rfl zw_425 rfl ha dX1_hearAccept_10 (fun f14 => ?_)
  obtain ⟨a15, e15, hP⟩ := hP
  have k15 := f14 a15 e15
  refine z_geti (c := 5) (k := 5) (g := 645) z_cb5 (Nat.le_of_ble_eq_true rfl) (Nat.le_of_ble_eq_true rfl) rfl (Nat.le_of_ble_eq_true rfl) zw_166 e15 k15 dX1_hearAccept_13 ?_
  refine z_aload_n dX1_hearAccept_16 rfl 0 rfl ?_
  refine z_geti (c := 1) (k := 11) (g := 139) z_cb1 (Nat.le_of_ble_eq_true rfl) (Nat.le_of_ble_eq_true rfl) rfl (Nat.le_of_ble_eq_true rfl) zw_439 rfl ha dX1_hearAccept_17 ?_
  refine z_isub dX1_hearAccept_20 ?_
  obtain ⟨a19, e19, hP⟩ := hP
  have k19 := f13 a19 e19
  refine z_wts (fun hT18 _ => ?_)
  refine z_cVv (c := 7) (n := 1) (Y1 := Y_X7_measure) (st := []) e19 k19 z_cb7 (Nat.le_of_ble_eq_true rfl) rfl (s_X7_measure k19 hP) rfl ⟨z_dc_X7_measure, ⟨(Nat.le_of_ble_eq_true rfl), (Nat.le_of_ble_eq_true rfl)⟩, (Nat.le_of_ble_eq_true rfl)⟩ rfl zw_934 zw_935 zw_936 zw_10 zw_937 dX1_hearAccept_21 (fun M_18 hP _ x18 => ?_)
  have ha := x18.k (k := 1) hT18 ha
  refine z_pc (pc' := 24) rfl ?_
  refine z_aload_n dX1_hearAccept_24 rfl 0 rfl ?_
  refine z_geti (c := 1) (k := 6) (g := 134) z_cb1 (Nat.le_of_ble_eq_true rfl) (Nat.le_of_ble_eq_true rfl) rfl (Nat.le_of_ble_eq_true rfl) zw_432 rfl ha dX1_hearAccept_25 ?_
  refine z_topi (fun x_21 y_21 => ?_)
  replace hP := hP x_21 y_21
  refine z_istore_n (lv' := [(2, z_I _), (0, z_O _), (1, z_I _)]) dX1_hearAccept_28 rfl (Nat.le_of_ble_eq_true rfl) rfl ?_
  obtain ⟨n22, hP⟩ := hP
  refine z_sub (lv' := [(0, z_O _), (1, z_I _), (2, z_I _)]) [1, 2, 0] rfl ?_
  exact v_X1_hearAccept_29  n22 ha f_p1 hP
set_option maxRecDepth 100000 in
def P_X2_keepRate (a : Nat) (p1 : Int32) (M : z_Mem) (Post : z_Mem → Prop) : Prop := z_nn (z_fr M 265 a) fun a3 => (vp_in (z_fi M 266 a) (z_ln M a3) ∧ (∀ M_5 : z_Mem, M_5 = z_sai M a3 (((z_fi M 266 a) : Int32).toNatClampNeg) p1 → (∀ M_7 : z_Mem, M_7 = z_sfi M_5 266 a (((z_fi M_5 266 a) + 1) - ((z_fi M_5 266 a) + 1) / 8 * 8) → (Post M_7))))
set_option maxRecDepth 100000 in
set_option maxHeartbeats 4000000 in
theorem s_X2_keepRate {G : z_G} {M : z_Mem} {a : Nat} {p1 : Int32} {Post : z_Mem → Prop} (ha : z_ki M a = 3) (hP : P_X2_keepRate a p1 M Post) : z_Mt G Y_X2_keepRate M [z_O (some a), z_I p1] (z_PV Post) := by
  refine z_ofV (by decide) (Nat.le_of_ble_eq_true rfl) ?_
  unfold P_X2_keepRate at hP
  refine z_sub (lv' := [(0, z_O (some a)), (1, z_I p1)]) [0, 1] rfl ?_
  refine z_aload_n dX2_keepRate_0 rfl 0 rfl ?_
  refine z_getr (c := 2) (k := 9) (g := 265) (t := 20) z_cb2 (Nat.le_of_ble_eq_true rfl) (Nat.le_of_ble_eq_true rfl) rfl rfl zw_324 rfl ha dX2_keepRate_1 (fun f1 => ?_)
  refine z_aload_n dX2_keepRate_4 rfl 0 rfl ?_
  refine z_geti (c := 2) (k := 10) (g := 266) z_cb2 (Nat.le_of_ble_eq_true rfl) (Nat.le_of_ble_eq_true rfl) rfl (Nat.le_of_ble_eq_true rfl) zw_325 rfl ha dX2_keepRate_5 ?_
  refine z_iload_n dX2_keepRate_8 rfl 1 rfl ?_
  obtain ⟨a3, e3, hP⟩ := hP
  have k3 := f1 a3 e3
  obtain ⟨i4, hP⟩ := hP
  refine z_iast e3 k3 i4 dX2_keepRate_9 ?_
  refine z_nm (fun M_5 g_5 => ?_)
  replace hP := hP M_5 g_5
  have q_5 := z_k3 g_5
  have ha := z_kk q_5 ha
  refine z_pc (pc' := 10) rfl ?_
  refine z_aload_n dX2_keepRate_10 rfl 0 rfl ?_
  refine z_aload_n dX2_keepRate_11 rfl 0 rfl ?_
  refine z_geti (c := 2) (k := 10) (g := 266) z_cb2 (Nat.le_of_ble_eq_true rfl) (Nat.le_of_ble_eq_true rfl) rfl (Nat.le_of_ble_eq_true rfl) zw_325 rfl ha dX2_keepRate_12 ?_
  refine z_iconst (v := 1) dX2_keepRate_15 (by decide) ?_
  refine z_iadd dX2_keepRate_16 ?_
  refine z_bipush (v := 8) dX2_keepRate_17 (by decide) ?_
  refine z_pc (pc' := 19) rfl ?_
  refine z_irem dX2_keepRate_19 (by decide) ?_
  refine z_puti (c := 2) (k := 10) (g := 266) z_cb2 (Nat.le_of_ble_eq_true rfl) (Nat.le_of_ble_eq_true rfl) (Nat.le_of_ble_eq_true rfl) rfl rfl rfl zw_325 rfl ha (Or.inl rfl) dX2_keepRate_20 ?_
  refine z_nm (fun M_7 g_7 => ?_)
  replace hP := hP M_7 g_7
  have q_7 := z_k1 g_7
  have ha := z_kk q_7 ha
  exact z_retv rfl dX2_keepRate_23 hP
set_option maxRecDepth 100000 in
def P_X2_greatestRate_13 (a : Nat) (Post : Int32 → z_Mem → Prop)  : Nat → Int32 → Option Nat → Int32 → Int32 → z_Mem → Prop
  | 0, _, _, _, _, _ => False
  | n + 1, x1, x2, x3, x4, M => ((x3 ≤ x4 → Post x1 M) ∧ (¬ x3 ≤ x4 → z_nn x2 fun a2 => (vp_in x4 (z_ln M a2) ∧ (∀ x_4 : Int32, x_4 = (z_ai M a2 ((x4 : Int32).toNatClampNeg)) → (∀ x_5 : Int32, x_5 = ((if x1 < x_4 then x_4 else x1) : Int32) → (∀ x_6 : Int32, x_6 = x4 + 1 → (P_X2_greatestRate_13 a Post n x_5 x2 x3 x_6 M)))))))
set_option maxRecDepth 100000 in
def P_X2_greatestRate (a : Nat) (M : z_Mem) (Post : Int32 → z_Mem → Prop) : Prop := z_nn (z_fr M 265 a) fun a8 => (∀ x_9 : Int32, x_9 = (nI (z_ln M a8)) → ((∃ n10 : Nat, P_X2_greatestRate_13 a Post n10 0 (z_fr M 265 a) x_9 0 M)))
set_option maxRecDepth 100000 in
set_option maxHeartbeats 4000000 in
theorem v_X2_greatestRate_13 {G : z_G} {M0 : z_Mem} {a : Nat} {Post : Int32 → z_Mem → Prop}   : ∀ (n : Nat) {x1 : Int32} {x2 : Option Nat} {x3 : Int32} {x4 : Int32} {M : z_Mem}, (z_ki M a = 3) → (z_tr M x2 20) → P_X2_greatestRate_13 a Post n x1 x2 x3 x4 M → z_V G Y_X2_greatestRate z_X0 M0 (z_QM G M0 (z_PI Post)) M 13 [(1, z_I x1), (2, z_O x2), (3, z_I x3), (4, z_I x4)] [] := by
  intro n
  induction n with
  | zero => intro x1 x2 x3 x4 M ha f_x2 hP; exact False.elim hP
  | succ n ih =>
    intro x1 x2 x3 x4 M ha f_x2 hP
    unfold P_X2_greatestRate_13 at hP
    refine z_iload dX2_greatestRate_13 3 rfl ?_
    refine z_iload_n dX2_greatestRate_15 rfl 2 rfl ?_
    refine z_icmp_ge (tgt := 38) dX2_greatestRate_16 (by decide) (fun h1 => ?_) (fun h1 => ?_)
    · replace hP := hP.1 h1
      refine z_iload_n dX2_greatestRate_38 rfl 0 rfl ?_
      exact z_reti rfl dX2_greatestRate_39 hP
    · replace hP := hP.2 h1
      refine z_aload_n dX2_greatestRate_19 rfl 1 rfl ?_
      refine z_iload dX2_greatestRate_20 3 rfl ?_
      obtain ⟨a2, e2, hP⟩ := hP
      have k2 := f_x2 a2 e2
      obtain ⟨i3, hP⟩ := hP
      refine z_iald e2 k2 i3 dX2_greatestRate_22 ?_
      refine z_topi (fun x_4 y_4 => ?_)
      replace hP := hP x_4 y_4
      refine z_istore (lv' := [(5, z_I _), (1, z_I _), (2, z_O _), (3, z_I _), (4, z_I _)]) dX2_greatestRate_23 (Nat.le_of_ble_eq_true rfl) rfl ?_
      refine z_pc (pc' := 25) rfl ?_
      refine z_iload_n dX2_greatestRate_25 rfl 1 rfl ?_
      refine z_iload dX2_greatestRate_26 0 rfl ?_
      refine z_mmax zw_976 zw_102 zw_5 zw_103 dX2_greatestRate_28 (Nat.le_of_ble_eq_true rfl) (Nat.le_of_ble_eq_true rfl) ?_
      refine z_topi (fun x_5 y_5 => ?_)
      replace hP := hP x_5 y_5
      refine z_istore_n (lv' := [(1, z_I _), (5, z_I _), (2, z_O _), (3, z_I _), (4, z_I _)]) dX2_greatestRate_31 rfl (Nat.le_of_ble_eq_true rfl) rfl ?_
      refine z_iincN (j := 4) (m := 1) (lv' := fun v => [(4, z_I v), (1, z_I _), (5, z_I _), (2, z_O _), (3, z_I _)]) dX2_greatestRate_32 rfl (by decide) (Nat.le_of_ble_eq_true rfl) (fun _ => rfl) (fun x_6 y_6 => ?_)
      replace hP := hP x_6 y_6
      refine z_goto (tgt := 13) dX2_greatestRate_35 (by decide) ?_
      refine z_sub (lv' := [(1, z_I _), (2, z_O _), (3, z_I _), (4, z_I _)]) [1, 3, 4, 0] rfl ?_
      exact ih ha (z_trn e2 k2) hP
set_option maxRecDepth 100000 in
set_option maxHeartbeats 4000000 in
theorem s_X2_greatestRate {G : z_G} {M : z_Mem} {a : Nat} {Post : Int32 → z_Mem → Prop} (ha : z_ki M a = 3) (hP : P_X2_greatestRate a M Post) : z_Mt G Y_X2_greatestRate M [z_O (some a)] (z_PI Post) := by
  refine z_ofV (by decide) (Nat.le_of_ble_eq_true rfl) ?_
  unfold P_X2_greatestRate at hP
  refine z_sub (lv' := [(0, z_O (some a))]) [0] rfl ?_
  refine z_iconst (v := 0) dX2_greatestRate_0 (by decide) ?_
  refine z_istore_n (lv' := [(1, z_I _), (0, z_O _)]) dX2_greatestRate_1 rfl (Nat.le_of_ble_eq_true rfl) rfl ?_
  refine z_aload_n dX2_greatestRate_2 rfl 1 rfl ?_
  refine z_getr (c := 2) (k := 9) (g := 265) (t := 20) z_cb2 (Nat.le_of_ble_eq_true rfl) (Nat.le_of_ble_eq_true rfl) rfl rfl zw_324 rfl ha dX2_greatestRate_3 (fun f7 => ?_)
  refine z_astore_n (lv' := [(2, z_O _), (1, z_I _), (0, z_O _)]) dX2_greatestRate_6 rfl (Nat.le_of_ble_eq_true rfl) rfl ?_
  refine z_aload_n dX2_greatestRate_7 rfl 0 rfl ?_
  refine z_pc (pc' := 8) rfl ?_
  obtain ⟨a8, e8, hP⟩ := hP
  have k8 := f7 a8 e8
  refine z_alen (t := 20) e8 k8 (Nat.le_of_ble_eq_true rfl) (Nat.le_of_ble_eq_true rfl) dX2_greatestRate_8 ?_
  refine z_topi (fun x_9 y_9 => ?_)
  replace hP := hP x_9 y_9
  refine z_istore_n (lv' := [(3, z_I _), (2, z_O _), (1, z_I _), (0, z_O _)]) dX2_greatestRate_9 rfl (Nat.le_of_ble_eq_true rfl) rfl ?_
  refine z_iconst (v := 0) dX2_greatestRate_10 (by decide) ?_
  refine z_istore (lv' := [(4, z_I _), (3, z_I _), (2, z_O _), (1, z_I _), (0, z_O _)]) dX2_greatestRate_11 (Nat.le_of_ble_eq_true rfl) rfl ?_
  obtain ⟨n10, hP⟩ := hP
  refine z_sub (lv' := [(1, z_I _), (2, z_O _), (3, z_I _), (4, z_I _)]) [3, 2, 1, 0] rfl ?_
  exact v_X2_greatestRate_13  n10 ha (z_trn e8 k8) hP
def P_X2_cubeStep_56 (a : Nat) (Post : Int32 → z_Mem → Prop)  (x1 : Int32) (x4 : Int64) (M : z_Mem) : Prop := ∀ x_2 : Int64, x_2 = ((((x1 - (z_fi M 262 a)) : Int32).toInt64) - x4) → (∀ x_4 : Int64, x_4 = ((((z_fi M 260 a) : Int32).toInt64) + ((((2 * x_2) * x_2) * x_2) / 125)) → (¬ ((((if 1 < (z_fi M 257 a) then (z_fi M 257 a) else 1) : Int32) : Int32).toInt64) = 0 ∧ (Post ((((if ((16 * (x_4 - (((z_fi M 257 a) : Int32).toInt64))) / ((((if 1 < (z_fi M 257 a) then (z_fi M 257 a) else 1) : Int32) : Int32).toInt64)) < 1 then 1 else ((16 * (x_4 - (((z_fi M 257 a) : Int32).toInt64))) / ((((if 1 < (z_fi M 257 a) then (z_fi M 257 a) else 1) : Int32) : Int32).toInt64))) : Int64) : Int64).toInt32) M)))
set_option maxRecDepth 100000 in
def P_X2_cubeStep_17 (a : Nat) (Post : Int32 → z_Mem → Prop)  : Nat → Int32 → Int64 → Int64 → z_Mem → Prop
  | 0, _, _, _, _ => False
  | n + 1, x1, x2, x4, M => ((0 ≤ (lg_cmp x4 10000) → P_X2_cubeStep_56 a Post x1 x4 M) ∧ (¬ 0 ≤ (lg_cmp x4 10000) → ((0 ≤ (lg_cmp ((((2 * x4) * x4) * x4) / 125) x2) → P_X2_cubeStep_56 a Post x1 x4 M) ∧ (¬ 0 ≤ (lg_cmp ((((2 * x4) * x4) * x4) / 125) x2) → ∀ x_10 : Int64, x_10 = (x4 + 1) → (P_X2_cubeStep_17 a Post n x1 x2 x_10 M)))))
set_option maxRecDepth 100000 in
def P_X2_cubeStep (a : Nat) (p1 : Int32) (M : z_Mem) (Post : Int32 → z_Mem → Prop) : Prop := ∀ x_12 : Int64, x_12 = ((3 * (((z_fi M 260 a) : Int32).toInt64)) / 10) → ((∃ n13 : Nat, P_X2_cubeStep_17 a Post n13 p1 x_12 0 M))
set_option maxRecDepth 100000 in
set_option maxHeartbeats 4000000 in
theorem v_X2_cubeStep_56 {G : z_G} {M0 : z_Mem} {a : Nat} {Post : Int32 → z_Mem → Prop}   {x1 : Int32} {x4 : Int64} {M : z_Mem} (ha : z_ki M a = 3) (hP : P_X2_cubeStep_56 a Post x1 x4 M) : z_V G Y_X2_cubeStep z_X0 M0 (z_QM G M0 (z_PI Post)) M 56 [(0, z_O (some a)), (1, z_I x1), (4, z_J x4)] [] := by
  unfold P_X2_cubeStep_56 at hP
  refine z_iload_n dX2_cubeStep_56 rfl 1 rfl ?_
  refine z_aload_n dX2_cubeStep_57 rfl 0 rfl ?_
  refine z_geti (c := 2) (k := 6) (g := 262) z_cb2 (Nat.le_of_ble_eq_true rfl) (Nat.le_of_ble_eq_true rfl) rfl (Nat.le_of_ble_eq_true rfl) zw_321 rfl ha dX2_cubeStep_58 ?_
  refine z_isub dX2_cubeStep_61 ?_
  refine z_i2l dX2_cubeStep_62 ?_
  refine z_lload dX2_cubeStep_63 2 rfl ?_
  refine z_pc (pc' := 65) rfl ?_
  refine z_lsub dX2_cubeStep_65 ?_
  refine z_topl (fun x_2 y_2 => ?_)
  replace hP := hP x_2 y_2
  refine z_lstore (lv' := [(6, z_J _), (0, z_O _), (1, z_I _), (4, z_J _)]) dX2_cubeStep_66 (Nat.le_of_ble_eq_true rfl) rfl ?_
  refine z_aload_n dX2_cubeStep_68 rfl 1 rfl ?_
  refine z_geti (c := 2) (k := 4) (g := 260) z_cb2 (Nat.le_of_ble_eq_true rfl) (Nat.le_of_ble_eq_true rfl) rfl (Nat.le_of_ble_eq_true rfl) zw_319 rfl ha dX2_cubeStep_69 ?_
  refine z_i2l dX2_cubeStep_72 ?_
  refine z_ldc2 zw_992 dX2_cubeStep_73 ?_
  refine z_pc (pc' := 76) rfl ?_
  refine z_lload dX2_cubeStep_76 0 rfl ?_
  refine z_lmul dX2_cubeStep_78 ?_
  refine z_lload dX2_cubeStep_79 0 rfl ?_
  refine z_lmul dX2_cubeStep_81 ?_
  refine z_lload dX2_cubeStep_82 0 rfl ?_
  refine z_lmul dX2_cubeStep_84 ?_
  refine z_pc (pc' := 85) rfl ?_
  refine z_ldc2 zw_993 dX2_cubeStep_85 ?_
  refine z_ldiv dX2_cubeStep_88 (by decide) ?_
  refine z_ladd dX2_cubeStep_89 ?_
  refine z_topl (fun x_4 y_4 => ?_)
  replace hP := hP x_4 y_4
  refine z_lstore (lv' := [(8, z_J _), (6, z_J _), (0, z_O _), (1, z_I _), (4, z_J _)]) dX2_cubeStep_90 (Nat.le_of_ble_eq_true rfl) rfl ?_
  refine z_lconst (v := 1) dX2_cubeStep_92 (by decide) ?_
  refine z_ldc2 zw_994 dX2_cubeStep_93 ?_
  refine z_pc (pc' := 96) rfl ?_
  refine z_lload dX2_cubeStep_96 0 rfl ?_
  refine z_aload_n dX2_cubeStep_98 rfl 2 rfl ?_
  refine z_geti (c := 2) (k := 1) (g := 257) z_cb2 (Nat.le_of_ble_eq_true rfl) (Nat.le_of_ble_eq_true rfl) rfl (Nat.le_of_ble_eq_true rfl) zw_312 rfl ha dX2_cubeStep_99 ?_
  refine z_i2l dX2_cubeStep_102 ?_
  refine z_lsub dX2_cubeStep_103 ?_
  refine z_lmul dX2_cubeStep_104 ?_
  refine z_pc (pc' := 105) rfl ?_
  refine z_iconst (v := 1) dX2_cubeStep_105 (by decide) ?_
  refine z_aload_n dX2_cubeStep_106 rfl 2 rfl ?_
  refine z_geti (c := 2) (k := 1) (g := 257) z_cb2 (Nat.le_of_ble_eq_true rfl) (Nat.le_of_ble_eq_true rfl) rfl (Nat.le_of_ble_eq_true rfl) zw_312 rfl ha dX2_cubeStep_107 ?_
  refine z_mmax zw_976 zw_102 zw_5 zw_103 dX2_cubeStep_110 (Nat.le_of_ble_eq_true rfl) (Nat.le_of_ble_eq_true rfl) ?_
  refine z_i2l dX2_cubeStep_113 ?_
  obtain ⟨z7, hP⟩ := hP
  refine z_ldiv dX2_cubeStep_114 z7 ?_
  refine z_pc (pc' := 115) rfl ?_
  refine z_mmaxl zw_995 zw_996 zw_5 zw_997 dX2_cubeStep_115 (Nat.le_of_ble_eq_true rfl) (Nat.le_of_ble_eq_true rfl) ?_
  refine z_l2i dX2_cubeStep_118 ?_
  exact z_reti rfl dX2_cubeStep_119 hP
set_option maxRecDepth 100000 in
set_option maxHeartbeats 4000000 in
theorem v_X2_cubeStep_17 {G : z_G} {M0 : z_Mem} {a : Nat} {Post : Int32 → z_Mem → Prop}   : ∀ (n : Nat) {x1 : Int32} {x2 : Int64} {x4 : Int64} {M : z_Mem}, (z_ki M a = 3) → P_X2_cubeStep_17 a Post n x1 x2 x4 M → z_V G Y_X2_cubeStep z_X0 M0 (z_QM G M0 (z_PI Post)) M 17 [(0, z_O (some a)), (1, z_I x1), (2, z_J x2), (4, z_J x4)] [] := by
  intro n
  induction n with
  | zero => intro x1 x2 x4 M ha hP; exact False.elim hP
  | succ n ih =>
    intro x1 x2 x4 M ha hP
    unfold P_X2_cubeStep_17 at hP
    refine z_lload dX2_cubeStep_17 3 rfl ?_
    refine z_ldc2 zw_991 dX2_cubeStep_19 ?_
    refine z_lcmp dX2_cubeStep_22 ?_
    refine z_if_ge (tgt := 56) dX2_cubeStep_23 (by decide) (fun h8 => ?_) (fun h8 => ?_)
    · replace hP := hP.1 h8
      refine z_sub (lv' := [(0, z_O _), (1, z_I _), (4, z_J _)]) [0, 1, 3] rfl ?_
      exact v_X2_cubeStep_56  ha hP
    · replace hP := hP.2 h8
      refine z_ldc2 zw_992 dX2_cubeStep_26 ?_
      refine z_lload dX2_cubeStep_29 3 rfl ?_
      refine z_lmul dX2_cubeStep_31 ?_
      refine z_pc (pc' := 32) rfl ?_
      refine z_lload dX2_cubeStep_32 3 rfl ?_
      refine z_lmul dX2_cubeStep_34 ?_
      refine z_lload dX2_cubeStep_35 3 rfl ?_
      refine z_lmul dX2_cubeStep_37 ?_
      refine z_ldc2 zw_993 dX2_cubeStep_38 ?_
      refine z_ldiv dX2_cubeStep_41 (by decide) ?_
      refine z_pc (pc' := 42) rfl ?_
      refine z_lload_n dX2_cubeStep_42 rfl 2 rfl ?_
      refine z_lcmp dX2_cubeStep_43 ?_
      refine z_if_ge (tgt := 56) dX2_cubeStep_44 (by decide) (fun h9 => ?_) (fun h9 => ?_)
      · replace hP := hP.1 h9
        refine z_sub (lv' := [(0, z_O _), (1, z_I _), (4, z_J _)]) [0, 1, 3] rfl ?_
        exact v_X2_cubeStep_56  ha hP
      · replace hP := hP.2 h9
        refine z_lload dX2_cubeStep_47 3 rfl ?_
        refine z_lconst (v := 1) dX2_cubeStep_49 (by decide) ?_
        refine z_ladd dX2_cubeStep_50 ?_
        refine z_topl (fun x_10 y_10 => ?_)
        replace hP := hP x_10 y_10
        refine z_lstore (lv' := [(4, z_J _), (0, z_O _), (1, z_I _), (2, z_J _)]) dX2_cubeStep_51 (Nat.le_of_ble_eq_true rfl) rfl ?_
        refine z_pc (pc' := 53) rfl ?_
        refine z_goto (tgt := 17) dX2_cubeStep_53 (by decide) ?_
        refine z_sub (lv' := [(0, z_O _), (1, z_I _), (2, z_J _), (4, z_J _)]) [1, 2, 3, 0] rfl ?_
        exact ih ha hP
set_option maxRecDepth 100000 in
set_option maxHeartbeats 4000000 in
theorem s_X2_cubeStep {G : z_G} {M : z_Mem} {a : Nat} {p1 : Int32} {Post : Int32 → z_Mem → Prop} (ha : z_ki M a = 3) (hP : P_X2_cubeStep a p1 M Post) : z_Mt G Y_X2_cubeStep M [z_O (some a), z_I p1] (z_PI Post) := by
  refine z_ofV (by decide) (Nat.le_of_ble_eq_true rfl) ?_
  unfold P_X2_cubeStep at hP
  refine z_sub (lv' := [(0, z_O (some a)), (1, z_I p1)]) [0, 1] rfl ?_
  refine z_ldc2 zw_989 dX2_cubeStep_0 ?_
  refine z_aload_n dX2_cubeStep_3 rfl 0 rfl ?_
  refine z_geti (c := 2) (k := 4) (g := 260) z_cb2 (Nat.le_of_ble_eq_true rfl) (Nat.le_of_ble_eq_true rfl) rfl (Nat.le_of_ble_eq_true rfl) zw_319 rfl ha dX2_cubeStep_4 ?_
  refine z_i2l dX2_cubeStep_7 ?_
  refine z_lmul dX2_cubeStep_8 ?_
  refine z_ldc2 zw_990 dX2_cubeStep_9 ?_
  refine z_pc (pc' := 12) rfl ?_
  refine z_ldiv dX2_cubeStep_12 (by decide) ?_
  refine z_topl (fun x_12 y_12 => ?_)
  replace hP := hP x_12 y_12
  refine z_lstore_n (lv' := [(2, z_J _), (0, z_O _), (1, z_I _)]) dX2_cubeStep_13 rfl (Nat.le_of_ble_eq_true rfl) rfl ?_
  refine z_lconst (v := 0) dX2_cubeStep_14 (by decide) ?_
  refine z_lstore (lv' := [(4, z_J _), (2, z_J _), (0, z_O _), (1, z_I _)]) dX2_cubeStep_15 (Nat.le_of_ble_eq_true rfl) rfl ?_
  obtain ⟨n13, hP⟩ := hP
  refine z_sub (lv' := [(0, z_O _), (1, z_I _), (2, z_J _), (4, z_J _)]) [2, 3, 1, 0] rfl ?_
  exact v_X2_cubeStep_17  n13 ha hP
set_option maxRecDepth 100000 in
def P_X2_grow (a : Nat) (p1 : Int32) (p2 : Int32) (p3 : Int32) (p4 : Int32) (M : z_Mem) (Post : z_Mem → Prop) : Prop := (((z_fi M 256 a) = 2 → ¬ ((if 1 < p3 then p3 else 1) : Int32) = 0 ∧ (P_X2_keepRate a ((16 * p2) / ((if 1 < p3 then p3 else 1) : Int32)) M fun M_18 => (P_X2_greatestRate a M_18 fun x_19 M_19 => (∀ M_20 : z_Mem, M_20 = z_sfi M_19 257 a ((if 64 < ((2 * x_19) * p4) then ((2 * x_19) * p4) else 64) : Int32) → (Post M_20))))) ∧ (¬ (z_fi M 256 a) = 2 → (((z_fi M 258 a) ≤ (z_fi M 257 a) → (((z_fi M 256 a) = 0 → ¬ ((if 1 < (z_fi M 257 a) then (z_fi M 257 a) else 1) : Int32) = 0 ∧ (∀ M_14 : z_Mem, M_14 = z_sfi M 257 a ((z_fi M 257 a) + ((if 1 < (256 / ((if 1 < (z_fi M 257 a) then (z_fi M 257 a) else 1) : Int32)) then (256 / ((if 1 < (z_fi M 257 a) then (z_fi M 257 a) else 1) : Int32)) else 1) : Int32)) → (Post M_14))) ∧ (¬ (z_fi M 256 a) = 0 → P_X2_cubeStep a p1 M fun x_9 M_9 => (∀ M_10 : z_Mem, M_10 = z_sfi M_9 257 a ((z_fi M 257 a) + x_9) → (Post M_10))))) ∧ (¬ (z_fi M 258 a) ≤ (z_fi M 257 a) → ∀ M_16 : z_Mem, M_16 = z_sfi M 257 a ((z_fi M 257 a) + 16) → (Post M_16)))))
set_option maxRecDepth 100000 in
set_option maxHeartbeats 4000000 in
theorem s_X2_grow {G : z_G} {M : z_Mem} {a : Nat} {p1 : Int32} {p2 : Int32} {p3 : Int32} {p4 : Int32} {Post : z_Mem → Prop} (ha : z_ki M a = 3) (hP : P_X2_grow a p1 p2 p3 p4 M Post) : z_Mt G Y_X2_grow M [z_O (some a), z_I p1, z_I p2, z_I p3, z_I p4] (z_PV Post) := by
  refine z_ofV (by decide) (Nat.le_of_ble_eq_true rfl) ?_
  unfold P_X2_grow at hP
  refine z_sub (lv' := [(0, z_O (some a)), (1, z_I p1), (2, z_I p2), (3, z_I p3), (4, z_I p4)]) [0, 1, 2, 3, 4] rfl ?_
  refine z_aload_n dX2_grow_0 rfl 0 rfl ?_
  refine z_geti (c := 2) (k := 0) (g := 256) z_cb2 (Nat.le_of_ble_eq_true rfl) (Nat.le_of_ble_eq_true rfl) rfl (Nat.le_of_ble_eq_true rfl) zw_310 rfl ha dX2_grow_1 ?_
  refine z_iconst (v := 2) dX2_grow_4 (by decide) ?_
  refine z_icmp_ne (tgt := 43) dX2_grow_5 (by decide) (fun h2 => ?_) (fun h2 => ?_)
  · replace hP := hP.2 h2
    refine z_aload_n dX2_grow_43 rfl 0 rfl ?_
    refine z_geti (c := 2) (k := 1) (g := 257) z_cb2 (Nat.le_of_ble_eq_true rfl) (Nat.le_of_ble_eq_true rfl) rfl (Nat.le_of_ble_eq_true rfl) zw_312 rfl ha dX2_grow_44 ?_
    refine z_aload_n dX2_grow_47 rfl 0 rfl ?_
    refine z_pc (pc' := 48) rfl ?_
    refine z_geti (c := 2) (k := 2) (g := 258) z_cb2 (Nat.le_of_ble_eq_true rfl) (Nat.le_of_ble_eq_true rfl) rfl (Nat.le_of_ble_eq_true rfl) zw_315 rfl ha dX2_grow_48 ?_
    refine z_icmp_ge (tgt := 68) dX2_grow_51 (by decide) (fun h5 => ?_) (fun h5 => ?_)
    · replace hP := hP.1 h5
      refine z_aload_n dX2_grow_68 rfl 0 rfl ?_
      refine z_geti (c := 2) (k := 0) (g := 256) z_cb2 (Nat.le_of_ble_eq_true rfl) (Nat.le_of_ble_eq_true rfl) rfl (Nat.le_of_ble_eq_true rfl) zw_310 rfl ha dX2_grow_69 ?_
      refine z_if_ne (tgt := 103) dX2_grow_72 (by decide) (fun h7 => ?_) (fun h7 => ?_)
      · replace hP := hP.2 h7
        refine z_aload_n dX2_grow_103 rfl 0 rfl ?_
        refine z_dup dX2_grow_104 rfl ?_
        refine z_geti (c := 2) (k := 1) (g := 257) z_cb2 (Nat.le_of_ble_eq_true rfl) (Nat.le_of_ble_eq_true rfl) rfl (Nat.le_of_ble_eq_true rfl) zw_312 rfl ha dX2_grow_105 ?_
        refine z_pc (pc' := 108) rfl ?_
        refine z_aload_n dX2_grow_108 rfl 0 rfl ?_
        refine z_iload_n dX2_grow_109 rfl 1 rfl ?_
        refine z_wts (fun hT9 _ => ?_)
        refine z_cVi (c := 2) (n := 1) (Y1 := Y_X2_cubeStep) (st := [z_I _, z_O _]) rfl ha z_cb2 (Nat.le_of_ble_eq_true rfl) rfl (s_X2_cubeStep ha hP) rfl ⟨z_dc_X2_cubeStep, ⟨(Nat.le_of_ble_eq_true rfl), (Nat.le_of_ble_eq_true rfl)⟩, (Nat.le_of_ble_eq_true rfl)⟩ rfl zw_985 zw_987 zp_18 zw_11 zw_988 dX2_grow_110 (fun x_9 M_9 hP _ x9 => ?_)
        have ha := x9.k (k := 2) hT9 ha
        refine z_iadd dX2_grow_113 ?_
        refine z_puti (c := 2) (k := 1) (g := 257) z_cb2 (Nat.le_of_ble_eq_true rfl) (Nat.le_of_ble_eq_true rfl) (Nat.le_of_ble_eq_true rfl) rfl rfl rfl zw_312 rfl ha (Or.inl rfl) dX2_grow_114 ?_
        refine z_nm (fun M_10 g_10 => ?_)
        replace hP := hP M_10 g_10
        have q_10 := z_k1 g_10
        have ha := z_kk q_10 ha
        exact z_retv rfl dX2_grow_117 hP
      · replace hP := hP.1 h7
        refine z_aload_n dX2_grow_75 rfl 0 rfl ?_
        refine z_dup dX2_grow_76 rfl ?_
        refine z_geti (c := 2) (k := 1) (g := 257) z_cb2 (Nat.le_of_ble_eq_true rfl) (Nat.le_of_ble_eq_true rfl) rfl (Nat.le_of_ble_eq_true rfl) zw_312 rfl ha dX2_grow_77 ?_
        refine z_pc (pc' := 80) rfl ?_
        refine z_iconst (v := 1) dX2_grow_80 (by decide) ?_
        refine z_sipush (v := 256) dX2_grow_81 (by decide) ?_
        refine z_iconst (v := 1) dX2_grow_84 (by decide) ?_
        refine z_aload_n dX2_grow_85 rfl 0 rfl ?_
        refine z_geti (c := 2) (k := 1) (g := 257) z_cb2 (Nat.le_of_ble_eq_true rfl) (Nat.le_of_ble_eq_true rfl) rfl (Nat.le_of_ble_eq_true rfl) zw_312 rfl ha dX2_grow_86 ?_
        refine z_mmax zw_976 zw_102 zw_5 zw_103 dX2_grow_89 (Nat.le_of_ble_eq_true rfl) (Nat.le_of_ble_eq_true rfl) ?_
        refine z_pc (pc' := 92) rfl ?_
        obtain ⟨z13, hP⟩ := hP
        refine z_idiv dX2_grow_92 z13 ?_
        refine z_mmax zw_976 zw_102 zw_5 zw_103 dX2_grow_93 (Nat.le_of_ble_eq_true rfl) (Nat.le_of_ble_eq_true rfl) ?_
        refine z_iadd dX2_grow_96 ?_
        refine z_puti (c := 2) (k := 1) (g := 257) z_cb2 (Nat.le_of_ble_eq_true rfl) (Nat.le_of_ble_eq_true rfl) (Nat.le_of_ble_eq_true rfl) rfl rfl rfl zw_312 rfl ha (Or.inl rfl) dX2_grow_97 ?_
        refine z_nm (fun M_14 g_14 => ?_)
        replace hP := hP M_14 g_14
        have q_14 := z_k1 g_14
        have ha := z_kk q_14 ha
        refine z_goto (tgt := 117) dX2_grow_100 (by decide) ?_
        exact z_retv rfl dX2_grow_117 hP
    · replace hP := hP.2 h5
      refine z_aload_n dX2_grow_54 rfl 0 rfl ?_
      refine z_dup dX2_grow_55 rfl ?_
      refine z_geti (c := 2) (k := 1) (g := 257) z_cb2 (Nat.le_of_ble_eq_true rfl) (Nat.le_of_ble_eq_true rfl) rfl (Nat.le_of_ble_eq_true rfl) zw_312 rfl ha dX2_grow_56 ?_
      refine z_bipush (v := 16) dX2_grow_59 (by decide) ?_
      refine z_iadd dX2_grow_61 ?_
      refine z_pc (pc' := 62) rfl ?_
      refine z_puti (c := 2) (k := 1) (g := 257) z_cb2 (Nat.le_of_ble_eq_true rfl) (Nat.le_of_ble_eq_true rfl) (Nat.le_of_ble_eq_true rfl) rfl rfl rfl zw_312 rfl ha (Or.inl rfl) dX2_grow_62 ?_
      refine z_nm (fun M_16 g_16 => ?_)
      replace hP := hP M_16 g_16
      have q_16 := z_k1 g_16
      have ha := z_kk q_16 ha
      refine z_goto (tgt := 117) dX2_grow_65 (by decide) ?_
      exact z_retv rfl dX2_grow_117 hP
  · replace hP := hP.1 h2
    refine z_aload_n dX2_grow_8 rfl 0 rfl ?_
    refine z_bipush (v := 16) dX2_grow_9 (by decide) ?_
    refine z_iload_n dX2_grow_11 rfl 2 rfl ?_
    refine z_pc (pc' := 12) rfl ?_
    refine z_imul dX2_grow_12 ?_
    refine z_iconst (v := 1) dX2_grow_13 (by decide) ?_
    refine z_iload_n dX2_grow_14 rfl 3 rfl ?_
    refine z_mmax zw_976 zw_102 zw_5 zw_103 dX2_grow_15 (Nat.le_of_ble_eq_true rfl) (Nat.le_of_ble_eq_true rfl) ?_
    obtain ⟨z17, hP⟩ := hP
    refine z_idiv dX2_grow_18 z17 ?_
    refine z_wts (fun hT18 _ => ?_)
    refine z_cVv (c := 2) (n := 1) (Y1 := Y_X2_keepRate) (st := []) rfl ha z_cb2 (Nat.le_of_ble_eq_true rfl) rfl (s_X2_keepRate ha hP) rfl ⟨z_dc_X2_keepRate, ⟨(Nat.le_of_ble_eq_true rfl), (Nat.le_of_ble_eq_true rfl)⟩, (Nat.le_of_ble_eq_true rfl)⟩ rfl zw_977 zw_979 zp_16 zw_11 zw_980 dX2_grow_19 (fun M_18 hP _ x18 => ?_)
    have ha := x18.k (k := 2) hT18 ha
    refine z_pc (pc' := 22) rfl ?_
    refine z_aload_n dX2_grow_22 rfl 0 rfl ?_
    refine z_bipush (v := 64) dX2_grow_23 (by decide) ?_
    refine z_iconst (v := 2) dX2_grow_25 (by decide) ?_
    refine z_aload_n dX2_grow_26 rfl 0 rfl ?_
    refine z_wts (fun hT19 _ => ?_)
    refine z_cVi (c := 2) (n := 0) (Y1 := Y_X2_greatestRate) (st := [z_I _, z_I _, z_O _]) rfl ha z_cb2 (Nat.le_of_ble_eq_true rfl) rfl (s_X2_greatestRate ha hP) rfl ⟨z_dc_X2_greatestRate, ⟨(Nat.le_of_ble_eq_true rfl), (Nat.le_of_ble_eq_true rfl)⟩, (Nat.le_of_ble_eq_true rfl)⟩ rfl zw_981 zw_983 zp_17 zw_11 zw_984 dX2_grow_27 (fun x_19 M_19 hP _ x19 => ?_)
    have ha := x19.k (k := 2) hT19 ha
    refine z_imul dX2_grow_30 ?_
    refine z_pc (pc' := 31) rfl ?_
    refine z_iload dX2_grow_31 4 rfl ?_
    refine z_imul dX2_grow_33 ?_
    refine z_mmax zw_976 zw_102 zw_5 zw_103 dX2_grow_34 (Nat.le_of_ble_eq_true rfl) (Nat.le_of_ble_eq_true rfl) ?_
    refine z_puti (c := 2) (k := 1) (g := 257) z_cb2 (Nat.le_of_ble_eq_true rfl) (Nat.le_of_ble_eq_true rfl) (Nat.le_of_ble_eq_true rfl) rfl rfl rfl zw_312 rfl ha (Or.inl rfl) dX2_grow_37 ?_
    refine z_nm (fun M_20 g_20 => ?_)
    replace hP := hP M_20 g_20
    have q_20 := z_k1 g_20
    have ha := z_kk q_20 ha
    refine z_goto (tgt := 117) dX2_grow_40 (by decide) ?_
    exact z_retv rfl dX2_grow_117 hP
set_option maxRecDepth 100000 in
def P_X2_takeBackHarm (a : Nat) (p1 : Int32) (M : z_Mem) (Post : z_Mem → Prop) : Prop := ((p1 = (z_fi M 264 a) → ∀ M_3 : z_Mem, M_3 = z_sfi M 264 a (-1) → (∀ M_6 : z_Mem, M_6 = z_sfi M_3 257 a ((if (z_fi M_3 257 a) < (z_fi M_3 260 a) then (z_fi M_3 260 a) else (z_fi M_3 257 a)) : Int32) → (∀ M_9 : z_Mem, M_9 = z_sfi M_6 258 a ((if (z_fi M_6 258 a) < (z_fi M_6 261 a) then (z_fi M_6 261 a) else (z_fi M_6 258 a)) : Int32) → (Post M_9)))) ∧ (¬ p1 = (z_fi M 264 a) → Post M))
set_option maxRecDepth 100000 in
set_option maxHeartbeats 4000000 in
theorem s_X2_takeBackHarm {G : z_G} {M : z_Mem} {a : Nat} {p1 : Int32} {Post : z_Mem → Prop} (ha : z_ki M a = 3) (hP : P_X2_takeBackHarm a p1 M Post) : z_Mt G Y_X2_takeBackHarm M [z_O (some a), z_I p1] (z_PV Post) := by
  refine z_ofV (by decide) (Nat.le_of_ble_eq_true rfl) ?_
  unfold P_X2_takeBackHarm at hP
  refine z_sub (lv' := [(0, z_O (some a)), (1, z_I p1)]) [0, 1] rfl ?_
  refine z_iload_n dX2_takeBackHarm_0 rfl 1 rfl ?_
  refine z_aload_n dX2_takeBackHarm_1 rfl 0 rfl ?_
  refine z_geti (c := 2) (k := 8) (g := 264) z_cb2 (Nat.le_of_ble_eq_true rfl) (Nat.le_of_ble_eq_true rfl) rfl (Nat.le_of_ble_eq_true rfl) zw_323 rfl ha dX2_takeBackHarm_2 ?_
  refine z_icmp_ne (tgt := 43) dX2_takeBackHarm_5 (by decide) (fun h2 => ?_) (fun h2 => ?_)
  · replace hP := hP.2 h2
    exact z_retv rfl dX2_takeBackHarm_43 hP
  · replace hP := hP.1 h2
    refine z_aload_n dX2_takeBackHarm_8 rfl 0 rfl ?_
    refine z_iconst (v := (-1)) dX2_takeBackHarm_9 (by decide) ?_
    refine z_puti (c := 2) (k := 8) (g := 264) z_cb2 (Nat.le_of_ble_eq_true rfl) (Nat.le_of_ble_eq_true rfl) (Nat.le_of_ble_eq_true rfl) rfl rfl rfl zw_323 rfl ha (Or.inl rfl) dX2_takeBackHarm_10 ?_
    refine z_nm (fun M_3 g_3 => ?_)
    replace hP := hP M_3 g_3
    have q_3 := z_k1 g_3
    have ha := z_kk q_3 ha
    refine z_pc (pc' := 13) rfl ?_
    refine z_aload_n dX2_takeBackHarm_13 rfl 0 rfl ?_
    refine z_aload_n dX2_takeBackHarm_14 rfl 0 rfl ?_
    refine z_geti (c := 2) (k := 1) (g := 257) z_cb2 (Nat.le_of_ble_eq_true rfl) (Nat.le_of_ble_eq_true rfl) rfl (Nat.le_of_ble_eq_true rfl) zw_312 rfl ha dX2_takeBackHarm_15 ?_
    refine z_aload_n dX2_takeBackHarm_18 rfl 0 rfl ?_
    refine z_geti (c := 2) (k := 4) (g := 260) z_cb2 (Nat.le_of_ble_eq_true rfl) (Nat.le_of_ble_eq_true rfl) rfl (Nat.le_of_ble_eq_true rfl) zw_319 rfl ha dX2_takeBackHarm_19 ?_
    refine z_mmax zw_976 zw_102 zw_5 zw_103 dX2_takeBackHarm_22 (Nat.le_of_ble_eq_true rfl) (Nat.le_of_ble_eq_true rfl) ?_
    refine z_pc (pc' := 25) rfl ?_
    refine z_puti (c := 2) (k := 1) (g := 257) z_cb2 (Nat.le_of_ble_eq_true rfl) (Nat.le_of_ble_eq_true rfl) (Nat.le_of_ble_eq_true rfl) rfl rfl rfl zw_312 rfl ha (Or.inl rfl) dX2_takeBackHarm_25 ?_
    refine z_nm (fun M_6 g_6 => ?_)
    replace hP := hP M_6 g_6
    have q_6 := z_k1 g_6
    have ha := z_kk q_6 ha
    refine z_aload_n dX2_takeBackHarm_28 rfl 0 rfl ?_
    refine z_aload_n dX2_takeBackHarm_29 rfl 0 rfl ?_
    refine z_geti (c := 2) (k := 2) (g := 258) z_cb2 (Nat.le_of_ble_eq_true rfl) (Nat.le_of_ble_eq_true rfl) rfl (Nat.le_of_ble_eq_true rfl) zw_315 rfl ha dX2_takeBackHarm_30 ?_
    refine z_aload_n dX2_takeBackHarm_33 rfl 0 rfl ?_
    refine z_geti (c := 2) (k := 5) (g := 261) z_cb2 (Nat.le_of_ble_eq_true rfl) (Nat.le_of_ble_eq_true rfl) rfl (Nat.le_of_ble_eq_true rfl) zw_320 rfl ha dX2_takeBackHarm_34 ?_
    refine z_pc (pc' := 37) rfl ?_
    refine z_mmax zw_976 zw_102 zw_5 zw_103 dX2_takeBackHarm_37 (Nat.le_of_ble_eq_true rfl) (Nat.le_of_ble_eq_true rfl) ?_
    refine z_puti (c := 2) (k := 2) (g := 258) z_cb2 (Nat.le_of_ble_eq_true rfl) (Nat.le_of_ble_eq_true rfl) (Nat.le_of_ble_eq_true rfl) rfl rfl rfl zw_315 rfl ha (Or.inl rfl) dX2_takeBackHarm_40 ?_
    refine z_nm (fun M_9 g_9 => ?_)
    replace hP := hP M_9 g_9
    have q_9 := z_k1 g_9
    have ha := z_kk q_9 ha
    exact z_retv rfl dX2_takeBackHarm_43 hP
set_option maxRecDepth 100000 in
def P_X1_acknowledge (a : Nat) (p1 : Option Nat) (M : z_Mem) (Post : z_Mem → Prop) : Prop := ((p1 = none → Post M) ∧ (∀ a1 : Nat, p1 = some a1 → P_X1_routeOf a (z_fi M 769 a1) M fun x_3 M_3 => ((((z_fi M_3 778 a1) = 0 → P_X1_leaveFlight a p1 1 M_3 fun M_36 => (z_nn x_3 fun a37 => (∀ M_39 : z_Mem, M_39 = z_sfi M_36 907 a37 ((z_fi M_36 907 a37) + 1) → (∀ x_42 : Int32, x_42 = ((z_fi M_39 907 a37) - (z_fi M_39 781 a1)) → (z_nn (z_fr M_39 128 a) fun a45 => (z_nn (z_fr M_39 128 a) fun a48 => (z_nn (z_fr M_39 897 a37) fun a53 => (P_X2_grow a53 (z_fi M_39 645 a45) x_42 ((z_fi M_39 645 a48) - (z_fi M_39 770 a1)) (z_fi M_39 902 a37) M_39 fun M_52 => (∀ M_56 : z_Mem, M_56 = z_sfi M_52 906 a37 ((if (z_fi M_52 906 a37) < (z_fi M_52 780 a1) then (z_fi M_52 780 a1) else (z_fi M_52 906 a37)) : Int32) → (Post M_56)))))))))) ∧ (¬ (z_fi M_3 778 a1) = 0 → (((z_fi M_3 778 a1) = 2 → ∀ M_8 : z_Mem, M_8 = z_sfi M_3 778 a1 3 → (z_nn x_3 fun a9 => (∀ M_11 : z_Mem, M_11 = z_sfi M_8 912 a9 ((z_fi M_8 912 a9) + 1) → ((((z_fi M_11 771 a1) < 0 → z_nn (z_fr M_11 897 a9) fun a17 => (P_X2_takeBackHarm a17 (z_fi M_11 768 a1) M_11 fun M_16 => (Post M_16))) ∧ (¬ (z_fi M_11 771 a1) < 0 → ((4 ≤ (z_fi M_11 771 a1) → z_nn (z_fr M_11 897 a9) fun a23 => (P_X2_takeBackHarm a23 (z_fi M_11 768 a1) M_11 fun M_22 => (Post M_22))) ∧ (¬ 4 ≤ (z_fi M_11 771 a1) → z_nn (z_fr M_11 129 a) fun a26 => (vp_in (z_fi M_11 771 a1) (z_ln M_11 a26) ∧ (z_nn (z_ar M_11 a26 (((z_fi M_11 771 a1) : Int32).toNatClampNeg)) fun a31 => (P_X9_acknowledge a31 (z_fi M_11 772 a1) (z_fi M_11 773 a1) M_11 fun M_30 => (z_nn (z_fr M_30 897 a9) fun a35 => (P_X2_takeBackHarm a35 (z_fi M_30 768 a1) M_30 fun M_34 => (Post M_34)))))))))))))) ∧ (¬ (z_fi M_3 778 a1) = 2 → Post M_3)))))))
set_option maxRecDepth 100000 in
set_option maxHeartbeats 4000000 in
theorem s_X1_acknowledge {G : z_G} {M : z_Mem} {a : Nat} {p1 : Option Nat} {Post : z_Mem → Prop} (ha : z_ki M a = 2) (f_p1 : z_tr M p1 7) (hP : P_X1_acknowledge a p1 M Post) : z_Mt G Y_X1_acknowledge M [z_O (some a), z_O p1] (z_PV Post) := by
  refine z_ofV (by decide) (Nat.le_of_ble_eq_true rfl) ?_
  unfold P_X1_acknowledge at hP
  refine z_sub (lv' := [(0, z_O (some a)), (1, z_O p1)]) [0, 1] rfl ?_
  refine z_aload_n dX1_acknowledge_0 rfl 1 rfl ?_
  refine z_ifnonnull (tgt := 5) dX1_acknowledge_1 (by decide) (fun h1 => ?_) (fun a1 e1 => ?_)
  · replace hP := hP.1 h1
    exact z_retv rfl dX1_acknowledge_4 hP
  · replace hP := hP.2 a1 e1
    have k1 := f_p1 a1 e1
    refine z_aload_n dX1_acknowledge_5 rfl 0 rfl ?_
    refine z_aload_n dX1_acknowledge_6 rfl 1 rfl ?_
    refine z_geti (c := 6) (k := 1) (g := 769) z_cb6 (Nat.le_of_ble_eq_true rfl) (Nat.le_of_ble_eq_true rfl) rfl (Nat.le_of_ble_eq_true rfl) zw_1061 e1 k1 dX1_acknowledge_7 ?_
    refine z_wts (fun hT3 _ => ?_)
    refine z_cVo (c := 1) (n := 1) (Y1 := Y_X1_routeOf) (st := []) rfl ha z_cb1 (Nat.le_of_ble_eq_true rfl) rfl (s_X1_routeOf ha hP) rfl ⟨z_dc_X1_routeOf, ⟨(Nat.le_of_ble_eq_true rfl), (Nat.le_of_ble_eq_true rfl)⟩, (Nat.le_of_ble_eq_true rfl)⟩ rfl zw_929 zw_818 zw_819 zw_9 zw_820 dX1_acknowledge_10 (fun x_3 M_3 f3 hP _ x3 => ?_)
    have ha := x3.k (k := 1) hT3 ha
    have k1 := x3.k (k := 6) hT3 k1
    refine z_astore_n (lv' := [(2, z_O _), (0, z_O _), (1, z_O _)]) dX1_acknowledge_13 rfl (Nat.le_of_ble_eq_true rfl) rfl ?_
    refine z_pc (pc' := 14) rfl ?_
    refine z_aload_n dX1_acknowledge_14 rfl 2 rfl ?_
    refine z_geti (c := 6) (k := 10) (g := 778) z_cb6 (Nat.le_of_ble_eq_true rfl) (Nat.le_of_ble_eq_true rfl) rfl (Nat.le_of_ble_eq_true rfl) zw_1092 e1 k1 dX1_acknowledge_15 ?_
    refine z_if_ne (tgt := 96) dX1_acknowledge_18 (by decide) (fun h5 => ?_) (fun h5 => ?_)
    · replace hP := hP.2 h5
      refine z_aload_n dX1_acknowledge_96 rfl 2 rfl ?_
      refine z_geti (c := 6) (k := 10) (g := 778) z_cb6 (Nat.le_of_ble_eq_true rfl) (Nat.le_of_ble_eq_true rfl) rfl (Nat.le_of_ble_eq_true rfl) zw_1092 e1 k1 dX1_acknowledge_97 ?_
      refine z_iconst (v := 2) dX1_acknowledge_100 (by decide) ?_
      refine z_icmp_ne (tgt := 165) dX1_acknowledge_101 (by decide) (fun h7 => ?_) (fun h7 => ?_)
      · replace hP := hP.2 h7
        exact z_retv rfl dX1_acknowledge_165 hP
      · replace hP := hP.1 h7
        refine z_aload_n dX1_acknowledge_104 rfl 2 rfl ?_
        refine z_pc (pc' := 105) rfl ?_
        refine z_iconst (v := 3) dX1_acknowledge_105 (by decide) ?_
        refine z_puti (c := 6) (k := 10) (g := 778) z_cb6 (Nat.le_of_ble_eq_true rfl) (Nat.le_of_ble_eq_true rfl) (Nat.le_of_ble_eq_true rfl) rfl rfl rfl zw_1092 e1 k1 (Or.inl rfl) dX1_acknowledge_106 ?_
        refine z_nm (fun M_8 g_8 => ?_)
        replace hP := hP M_8 g_8
        have q_8 := z_k1 g_8
        have ha := z_kk q_8 ha
        have f3 := z_trk q_8 f3
        have k1 := z_kk q_8 k1
        refine z_aload_n dX1_acknowledge_109 rfl 0 rfl ?_
        refine z_dup dX1_acknowledge_110 rfl ?_
        obtain ⟨a9, e9, hP⟩ := hP
        have k9 := f3 a9 e9
        refine z_geti (c := 7) (k := 16) (g := 912) z_cb7 (Nat.le_of_ble_eq_true rfl) (Nat.le_of_ble_eq_true rfl) rfl (Nat.le_of_ble_eq_true rfl) zw_382 e9 k9 dX1_acknowledge_111 ?_
        refine z_iconst (v := 1) dX1_acknowledge_114 (by decide) ?_
        refine z_pc (pc' := 115) rfl ?_
        refine z_iadd dX1_acknowledge_115 ?_
        refine z_puti (c := 7) (k := 16) (g := 912) z_cb7 (Nat.le_of_ble_eq_true rfl) (Nat.le_of_ble_eq_true rfl) (Nat.le_of_ble_eq_true rfl) rfl rfl rfl zw_382 e9 k9 (Or.inl rfl) dX1_acknowledge_116 ?_
        refine z_nm (fun M_11 g_11 => ?_)
        replace hP := hP M_11 g_11
        have q_11 := z_k1 g_11
        have ha := z_kk q_11 ha
        have k9 := z_kk q_11 k9
        have k1 := z_kk q_11 k1
        refine z_aload_n dX1_acknowledge_119 rfl 2 rfl ?_
        refine z_geti (c := 6) (k := 3) (g := 771) z_cb6 (Nat.le_of_ble_eq_true rfl) (Nat.le_of_ble_eq_true rfl) rfl (Nat.le_of_ble_eq_true rfl) zw_1069 e1 k1 dX1_acknowledge_120 ?_
        refine z_if_lt (tgt := 154) dX1_acknowledge_123 (by decide) (fun h13 => ?_) (fun h13 => ?_)
        · replace hP := hP.1 h13
          refine z_aload_n dX1_acknowledge_154 rfl 0 rfl ?_
          refine z_getr (c := 7) (k := 1) (g := 897) (t := 3) z_cb7 (Nat.le_of_ble_eq_true rfl) (Nat.le_of_ble_eq_true rfl) rfl rfl zw_353 e9 k9 dX1_acknowledge_155 (fun f14 => ?_)
          refine z_pc (pc' := 158) rfl ?_
          refine z_aload_n dX1_acknowledge_158 rfl 2 rfl ?_
          refine z_geti (c := 6) (k := 0) (g := 768) z_cb6 (Nat.le_of_ble_eq_true rfl) (Nat.le_of_ble_eq_true rfl) rfl (Nat.le_of_ble_eq_true rfl) zw_1059 e1 k1 dX1_acknowledge_159 ?_
          obtain ⟨a17, e17, hP⟩ := hP
          have k17 := f14 a17 e17
          refine z_wts (fun hT16 _ => ?_)
          refine z_cVv (c := 2) (n := 1) (Y1 := Y_X2_takeBackHarm) (st := []) e17 k17 z_cb2 (Nat.le_of_ble_eq_true rfl) rfl (s_X2_takeBackHarm k17 hP) rfl ⟨z_dc_X2_takeBackHarm, ⟨(Nat.le_of_ble_eq_true rfl), (Nat.le_of_ble_eq_true rfl)⟩, (Nat.le_of_ble_eq_true rfl)⟩ rfl zw_999 zw_1000 zw_1001 zw_11 zw_1002 dX1_acknowledge_162 (fun M_16 hP _ x16 => ?_)
          have ha := x16.k (k := 1) hT16 ha
          have k9 := x16.k (k := 7) hT16 k9
          have k1 := x16.k (k := 6) hT16 k1
          exact z_retv rfl dX1_acknowledge_165 hP
        · replace hP := hP.2 h13
          refine z_aload_n dX1_acknowledge_126 rfl 2 rfl ?_
          refine z_geti (c := 6) (k := 3) (g := 771) z_cb6 (Nat.le_of_ble_eq_true rfl) (Nat.le_of_ble_eq_true rfl) rfl (Nat.le_of_ble_eq_true rfl) zw_1069 e1 k1 dX1_acknowledge_127 ?_
          refine z_pc (pc' := 130) rfl ?_
          refine z_iconst (v := 4) dX1_acknowledge_130 (by decide) ?_
          refine z_icmp_ge (tgt := 154) dX1_acknowledge_131 (by decide) (fun h19 => ?_) (fun h19 => ?_)
          · replace hP := hP.1 h19
            refine z_aload_n dX1_acknowledge_154 rfl 0 rfl ?_
            refine z_getr (c := 7) (k := 1) (g := 897) (t := 3) z_cb7 (Nat.le_of_ble_eq_true rfl) (Nat.le_of_ble_eq_true rfl) rfl rfl zw_353 e9 k9 dX1_acknowledge_155 (fun f20 => ?_)
            refine z_aload_n dX1_acknowledge_158 rfl 2 rfl ?_
            refine z_geti (c := 6) (k := 0) (g := 768) z_cb6 (Nat.le_of_ble_eq_true rfl) (Nat.le_of_ble_eq_true rfl) rfl (Nat.le_of_ble_eq_true rfl) zw_1059 e1 k1 dX1_acknowledge_159 ?_
            obtain ⟨a23, e23, hP⟩ := hP
            have k23 := f20 a23 e23
            refine z_wts (fun hT22 _ => ?_)
            refine z_cVv (c := 2) (n := 1) (Y1 := Y_X2_takeBackHarm) (st := []) e23 k23 z_cb2 (Nat.le_of_ble_eq_true rfl) rfl (s_X2_takeBackHarm k23 hP) rfl ⟨z_dc_X2_takeBackHarm, ⟨(Nat.le_of_ble_eq_true rfl), (Nat.le_of_ble_eq_true rfl)⟩, (Nat.le_of_ble_eq_true rfl)⟩ rfl zw_999 zw_1000 zw_1001 zw_11 zw_1002 dX1_acknowledge_162 (fun M_22 hP _ x22 => ?_)
            have ha := x22.k (k := 1) hT22 ha
            have k9 := x22.k (k := 7) hT22 k9
            have k1 := x22.k (k := 6) hT22 k1
            refine z_pc (pc' := 165) rfl ?_
            exact z_retv rfl dX1_acknowledge_165 hP
          · replace hP := hP.2 h19
            refine z_aload_n dX1_acknowledge_134 rfl 1 rfl ?_
            refine z_getr (c := 1) (k := 1) (g := 129) (t := 24) z_cb1 (Nat.le_of_ble_eq_true rfl) (Nat.le_of_ble_eq_true rfl) rfl rfl zw_426 rfl ha dX1_acknowledge_135 (fun f24 => ?_)
            refine z_aload_n dX1_acknowledge_138 rfl 2 rfl ?_
            refine z_geti (c := 6) (k := 3) (g := 771) z_cb6 (Nat.le_of_ble_eq_true rfl) (Nat.le_of_ble_eq_true rfl) rfl (Nat.le_of_ble_eq_true rfl) zw_1069 e1 k1 dX1_acknowledge_139 ?_
            obtain ⟨a26, e26, hP⟩ := hP
            have k26 := f24 a26 e26
            obtain ⟨i27, hP⟩ := hP
            refine z_aald (t := 24) e26 k26 (Nat.le_of_ble_eq_true rfl) (Nat.le_of_ble_eq_true rfl) i27 dX1_acknowledge_142 (fun f27 => ?_)
            refine z_pc (pc' := 143) rfl ?_
            refine z_aload_n dX1_acknowledge_143 rfl 2 rfl ?_
            refine z_geti (c := 6) (k := 4) (g := 772) z_cb6 (Nat.le_of_ble_eq_true rfl) (Nat.le_of_ble_eq_true rfl) rfl (Nat.le_of_ble_eq_true rfl) zw_1073 e1 k1 dX1_acknowledge_144 ?_
            refine z_aload_n dX1_acknowledge_147 rfl 2 rfl ?_
            refine z_geti (c := 6) (k := 5) (g := 773) z_cb6 (Nat.le_of_ble_eq_true rfl) (Nat.le_of_ble_eq_true rfl) rfl (Nat.le_of_ble_eq_true rfl) zw_1077 e1 k1 dX1_acknowledge_148 ?_
            obtain ⟨a31, e31, hP⟩ := hP
            have k31 := f27 a31 e31
            refine z_wts (fun hT30 _ => ?_)
            refine z_cVv (c := 9) (n := 2) (Y1 := Y_X9_acknowledge) (st := []) e31 k31 z_cb9 (Nat.le_of_ble_eq_true rfl) rfl (s_X9_acknowledge k31 hP) rfl ⟨z_dc_X9_acknowledge, ⟨(Nat.le_of_ble_eq_true rfl), (Nat.le_of_ble_eq_true rfl)⟩, (Nat.le_of_ble_eq_true rfl)⟩ rfl zw_946 zw_947 zw_948 zw_7 zw_949 dX1_acknowledge_151 (fun M_30 hP _ x30 => ?_)
            have ha := x30.k (k := 1) hT30 ha
            have k9 := x30.k (k := 7) hT30 k9
            have k1 := x30.k (k := 6) hT30 k1
            refine z_aload_n dX1_acknowledge_154 rfl 0 rfl ?_
            refine z_pc (pc' := 155) rfl ?_
            refine z_getr (c := 7) (k := 1) (g := 897) (t := 3) z_cb7 (Nat.le_of_ble_eq_true rfl) (Nat.le_of_ble_eq_true rfl) rfl rfl zw_353 e9 k9 dX1_acknowledge_155 (fun f32 => ?_)
            refine z_aload_n dX1_acknowledge_158 rfl 2 rfl ?_
            refine z_geti (c := 6) (k := 0) (g := 768) z_cb6 (Nat.le_of_ble_eq_true rfl) (Nat.le_of_ble_eq_true rfl) rfl (Nat.le_of_ble_eq_true rfl) zw_1059 e1 k1 dX1_acknowledge_159 ?_
            obtain ⟨a35, e35, hP⟩ := hP
            have k35 := f32 a35 e35
            refine z_wts (fun hT34 _ => ?_)
            refine z_cVv (c := 2) (n := 1) (Y1 := Y_X2_takeBackHarm) (st := []) e35 k35 z_cb2 (Nat.le_of_ble_eq_true rfl) rfl (s_X2_takeBackHarm k35 hP) rfl ⟨z_dc_X2_takeBackHarm, ⟨(Nat.le_of_ble_eq_true rfl), (Nat.le_of_ble_eq_true rfl)⟩, (Nat.le_of_ble_eq_true rfl)⟩ rfl zw_999 zw_1000 zw_1001 zw_11 zw_1002 dX1_acknowledge_162 (fun M_34 hP _ x34 => ?_)
            have ha := x34.k (k := 1) hT34 ha
            have k9 := x34.k (k := 7) hT34 k9
            have k1 := x34.k (k := 6) hT34 k1
            exact z_retv rfl dX1_acknowledge_165 hP
    · replace hP := hP.1 h5
      refine z_aload_n dX1_acknowledge_21 rfl 1 rfl ?_
      refine z_aload_n dX1_acknowledge_22 rfl 2 rfl ?_
      refine z_iconst (v := 1) dX1_acknowledge_23 (by decide) ?_
      refine z_wts (fun hT36 _ => ?_)
      refine z_cVv (c := 1) (n := 2) (Y1 := Y_X1_leaveFlight) (st := []) rfl ha z_cb1 (Nat.le_of_ble_eq_true rfl) rfl (s_X1_leaveFlight ha (z_trn e1 k1) hP) rfl ⟨z_dc_X1_leaveFlight, ⟨(Nat.le_of_ble_eq_true rfl), (Nat.le_of_ble_eq_true rfl)⟩, (Nat.le_of_ble_eq_true rfl)⟩ rfl zw_942 zw_944 zp_13 zw_9 zw_945 dX1_acknowledge_24 (fun M_36 hP _ x36 => ?_)
      have ha := x36.k (k := 1) hT36 ha
      have f3 := x36.t (k := 7) hT36 f3
      have k1 := x36.k (k := 6) hT36 k1
      refine z_pc (pc' := 27) rfl ?_
      refine z_aload_n dX1_acknowledge_27 rfl 0 rfl ?_
      refine z_dup dX1_acknowledge_28 rfl ?_
      obtain ⟨a37, e37, hP⟩ := hP
      have k37 := f3 a37 e37
      refine z_geti (c := 7) (k := 11) (g := 907) z_cb7 (Nat.le_of_ble_eq_true rfl) (Nat.le_of_ble_eq_true rfl) rfl (Nat.le_of_ble_eq_true rfl) zw_373 e37 k37 dX1_acknowledge_29 ?_
      refine z_iconst (v := 1) dX1_acknowledge_32 (by decide) ?_
      refine z_iadd dX1_acknowledge_33 ?_
      refine z_puti (c := 7) (k := 11) (g := 907) z_cb7 (Nat.le_of_ble_eq_true rfl) (Nat.le_of_ble_eq_true rfl) (Nat.le_of_ble_eq_true rfl) rfl rfl rfl zw_373 e37 k37 (Or.inl rfl) dX1_acknowledge_34 ?_
      refine z_nm (fun M_39 g_39 => ?_)
      replace hP := hP M_39 g_39
      have q_39 := z_k1 g_39
      have ha := z_kk q_39 ha
      have k37 := z_kk q_39 k37
      have k1 := z_kk q_39 k1
      refine z_pc (pc' := 37) rfl ?_
      refine z_aload_n dX1_acknowledge_37 rfl 0 rfl ?_
      refine z_geti (c := 7) (k := 11) (g := 907) z_cb7 (Nat.le_of_ble_eq_true rfl) (Nat.le_of_ble_eq_true rfl) rfl (Nat.le_of_ble_eq_true rfl) zw_373 e37 k37 dX1_acknowledge_38 ?_
      refine z_aload_n dX1_acknowledge_41 rfl 2 rfl ?_
      refine z_geti (c := 6) (k := 13) (g := 781) z_cb6 (Nat.le_of_ble_eq_true rfl) (Nat.le_of_ble_eq_true rfl) rfl (Nat.le_of_ble_eq_true rfl) zw_1099 e1 k1 dX1_acknowledge_42 ?_
      refine z_isub dX1_acknowledge_45 ?_
      refine z_topi (fun x_42 y_42 => ?_)
      replace hP := hP x_42 y_42
      refine z_istore_n (lv' := [(3, z_I _), (2, z_O _), (0, z_O _), (1, z_O _)]) dX1_acknowledge_46 rfl (Nat.le_of_ble_eq_true rfl) rfl ?_
      refine z_pc (pc' := 47) rfl ?_
      refine z_aload_n dX1_acknowledge_47 rfl 1 rfl ?_
      refine z_getr (c := 7) (k := 1) (g := 897) (t := 3) z_cb7 (Nat.le_of_ble_eq_true rfl) (Nat.le_of_ble_eq_true rfl) rfl rfl zw_353 e37 k37 dX1_acknowledge_48 (fun f43 => ?_)
      refine z_aload_n dX1_acknowledge_51 rfl 2 rfl ?_
      refine z_getr (c := 1) (k := 0) (g := 128) (t := 6) z_cb1 (Nat.le_of_ble_eq_true rfl) (Nat.le_of_ble_eq_true rfl) rfl rfl zw_425 rfl ha dX1_acknowledge_52 (fun f44 => ?_)
      obtain ⟨a45, e45, hP⟩ := hP
      have k45 := f44 a45 e45
      refine z_geti (c := 5) (k := 5) (g := 645) z_cb5 (Nat.le_of_ble_eq_true rfl) (Nat.le_of_ble_eq_true rfl) rfl (Nat.le_of_ble_eq_true rfl) zw_166 e45 k45 dX1_acknowledge_55 ?_
      refine z_iload_n dX1_acknowledge_58 rfl 0 rfl ?_
      refine z_pc (pc' := 59) rfl ?_
      refine z_aload_n dX1_acknowledge_59 rfl 2 rfl ?_
      refine z_getr (c := 1) (k := 0) (g := 128) (t := 6) z_cb1 (Nat.le_of_ble_eq_true rfl) (Nat.le_of_ble_eq_true rfl) rfl rfl zw_425 rfl ha dX1_acknowledge_60 (fun f47 => ?_)
      obtain ⟨a48, e48, hP⟩ := hP
      have k48 := f47 a48 e48
      refine z_geti (c := 5) (k := 5) (g := 645) z_cb5 (Nat.le_of_ble_eq_true rfl) (Nat.le_of_ble_eq_true rfl) rfl (Nat.le_of_ble_eq_true rfl) zw_166 e48 k48 dX1_acknowledge_63 ?_
      refine z_aload_n dX1_acknowledge_66 rfl 3 rfl ?_
      refine z_geti (c := 6) (k := 2) (g := 770) z_cb6 (Nat.le_of_ble_eq_true rfl) (Nat.le_of_ble_eq_true rfl) rfl (Nat.le_of_ble_eq_true rfl) zw_1065 e1 k1 dX1_acknowledge_67 ?_
      refine z_isub dX1_acknowledge_70 ?_
      refine z_pc (pc' := 71) rfl ?_
      refine z_aload_n dX1_acknowledge_71 rfl 1 rfl ?_
      refine z_geti (c := 7) (k := 6) (g := 902) z_cb7 (Nat.le_of_ble_eq_true rfl) (Nat.le_of_ble_eq_true rfl) rfl (Nat.le_of_ble_eq_true rfl) zw_365 e37 k37 dX1_acknowledge_72 ?_
      obtain ⟨a53, e53, hP⟩ := hP
      have k53 := f43 a53 e53
      refine z_wts (fun hT52 _ => ?_)
      refine z_cVv (c := 2) (n := 4) (Y1 := Y_X2_grow) (st := []) e53 k53 z_cb2 (Nat.le_of_ble_eq_true rfl) rfl (s_X2_grow k53 hP) rfl ⟨z_dc_X2_grow, ⟨(Nat.le_of_ble_eq_true rfl), (Nat.le_of_ble_eq_true rfl)⟩, (Nat.le_of_ble_eq_true rfl)⟩ rfl zw_972 zw_973 zw_974 zw_11 zw_975 dX1_acknowledge_75 (fun M_52 hP _ x52 => ?_)
      have ha := x52.k (k := 1) hT52 ha
      have k37 := x52.k (k := 7) hT52 k37
      have k1 := x52.k (k := 6) hT52 k1
      refine z_aload_n dX1_acknowledge_78 rfl 1 rfl ?_
      refine z_aload_n dX1_acknowledge_79 rfl 1 rfl ?_
      refine z_geti (c := 7) (k := 10) (g := 906) z_cb7 (Nat.le_of_ble_eq_true rfl) (Nat.le_of_ble_eq_true rfl) rfl (Nat.le_of_ble_eq_true rfl) zw_372 e37 k37 dX1_acknowledge_80 ?_
      refine z_pc (pc' := 83) rfl ?_
      refine z_aload_n dX1_acknowledge_83 rfl 3 rfl ?_
      refine z_geti (c := 6) (k := 12) (g := 780) z_cb6 (Nat.le_of_ble_eq_true rfl) (Nat.le_of_ble_eq_true rfl) rfl (Nat.le_of_ble_eq_true rfl) zw_1098 e1 k1 dX1_acknowledge_84 ?_
      refine z_mmax zw_998 zw_102 zw_5 zw_103 dX1_acknowledge_87 (Nat.le_of_ble_eq_true rfl) (Nat.le_of_ble_eq_true rfl) ?_
      refine z_puti (c := 7) (k := 10) (g := 906) z_cb7 (Nat.le_of_ble_eq_true rfl) (Nat.le_of_ble_eq_true rfl) (Nat.le_of_ble_eq_true rfl) rfl rfl rfl zw_372 e37 k37 (Or.inl rfl) dX1_acknowledge_90 ?_
      refine z_nm (fun M_56 g_56 => ?_)
      replace hP := hP M_56 g_56
      have q_56 := z_k1 g_56
      have ha := z_kk q_56 ha
      have k37 := z_kk q_56 k37
      have k1 := z_kk q_56 k1
      refine z_goto (tgt := 165) dX1_acknowledge_93 (by decide) ?_
      exact z_retv rfl dX1_acknowledge_165 hP
set_option maxRecDepth 100000 in
def P_X2_harm (a : Nat) (p1 : Int32) (p2 : Int32) (p3 : Int32) (p4 : Int32) (M : z_Mem) (Post : z_Mem → Prop) : Prop := (((z_fi M 263 a) ≤ p1 → ∀ M_4 : z_Mem, M_4 = z_sfi M 259 a ((z_fi M 259 a) + 1) → (∀ M_6 : z_Mem, M_6 = z_sfi M_4 260 a (z_fi M_4 257 a) → (∀ M_8 : z_Mem, M_8 = z_sfi M_6 261 a (z_fi M_6 258 a) → (∀ M_9 : z_Mem, M_9 = z_sfi M_8 262 a p4 → (∀ M_10 : z_Mem, M_10 = z_sfi M_9 263 a p3 → (∀ M_11 : z_Mem, M_11 = z_sfi M_10 264 a p2 → ((((z_fi M_11 256 a) = 2 → Post M_11) ∧ (¬ (z_fi M_11 256 a) = 2 → (((z_fi M_11 256 a) = 1 → ∀ M_21 : z_Mem, M_21 = z_sfi M_11 257 a ((if 32 < (((z_fi M_11 257 a) * 7) / 10) then (((z_fi M_11 257 a) * 7) / 10) else 32) : Int32) → (∀ M_23 : z_Mem, M_23 = z_sfi M_21 258 a (z_fi M_21 257 a) → (Post M_23))) ∧ (¬ (z_fi M_11 256 a) = 1 → ∀ M_17 : z_Mem, M_17 = z_sfi M_11 257 a ((if 32 < ((z_fi M_11 257 a) / 2) then ((z_fi M_11 257 a) / 2) else 32) : Int32) → (∀ M_19 : z_Mem, M_19 = z_sfi M_17 258 a (z_fi M_17 257 a) → (Post M_19))))))))))))) ∧ (¬ (z_fi M 263 a) ≤ p1 → Post M))
set_option maxRecDepth 100000 in
set_option maxHeartbeats 4000000 in
theorem s_X2_harm {G : z_G} {M : z_Mem} {a : Nat} {p1 : Int32} {p2 : Int32} {p3 : Int32} {p4 : Int32} {Post : z_Mem → Prop} (ha : z_ki M a = 3) (hP : P_X2_harm a p1 p2 p3 p4 M Post) : z_Mt G Y_X2_harm M [z_O (some a), z_I p1, z_I p2, z_I p3, z_I p4] (z_PV Post) := by
  refine z_ofV (by decide) (Nat.le_of_ble_eq_true rfl) ?_
  unfold P_X2_harm at hP
  refine z_sub (lv' := [(0, z_O (some a)), (1, z_I p1), (2, z_I p2), (3, z_I p3), (4, z_I p4)]) [0, 1, 2, 3, 4] rfl ?_
  refine z_iload_n dX2_harm_0 rfl 1 rfl ?_
  refine z_aload_n dX2_harm_1 rfl 0 rfl ?_
  refine z_geti (c := 2) (k := 7) (g := 263) z_cb2 (Nat.le_of_ble_eq_true rfl) (Nat.le_of_ble_eq_true rfl) rfl (Nat.le_of_ble_eq_true rfl) zw_322 rfl ha dX2_harm_2 ?_
  refine z_icmp_ge (tgt := 9) dX2_harm_5 (by decide) (fun h2 => ?_) (fun h2 => ?_)
  · replace hP := hP.1 h2
    refine z_aload_n dX2_harm_9 rfl 0 rfl ?_
    refine z_dup dX2_harm_10 rfl ?_
    refine z_geti (c := 2) (k := 3) (g := 259) z_cb2 (Nat.le_of_ble_eq_true rfl) (Nat.le_of_ble_eq_true rfl) rfl (Nat.le_of_ble_eq_true rfl) zw_317 rfl ha dX2_harm_11 ?_
    refine z_pc (pc' := 14) rfl ?_
    refine z_iconst (v := 1) dX2_harm_14 (by decide) ?_
    refine z_iadd dX2_harm_15 ?_
    refine z_puti (c := 2) (k := 3) (g := 259) z_cb2 (Nat.le_of_ble_eq_true rfl) (Nat.le_of_ble_eq_true rfl) (Nat.le_of_ble_eq_true rfl) rfl rfl rfl zw_317 rfl ha (Or.inl rfl) dX2_harm_16 ?_
    refine z_nm (fun M_4 g_4 => ?_)
    replace hP := hP M_4 g_4
    have q_4 := z_k1 g_4
    have ha := z_kk q_4 ha
    refine z_aload_n dX2_harm_19 rfl 0 rfl ?_
    refine z_aload_n dX2_harm_20 rfl 0 rfl ?_
    refine z_geti (c := 2) (k := 1) (g := 257) z_cb2 (Nat.le_of_ble_eq_true rfl) (Nat.le_of_ble_eq_true rfl) rfl (Nat.le_of_ble_eq_true rfl) zw_312 rfl ha dX2_harm_21 ?_
    refine z_pc (pc' := 24) rfl ?_
    refine z_puti (c := 2) (k := 4) (g := 260) z_cb2 (Nat.le_of_ble_eq_true rfl) (Nat.le_of_ble_eq_true rfl) (Nat.le_of_ble_eq_true rfl) rfl rfl rfl zw_319 rfl ha (Or.inl rfl) dX2_harm_24 ?_
    refine z_nm (fun M_6 g_6 => ?_)
    replace hP := hP M_6 g_6
    have q_6 := z_k1 g_6
    have ha := z_kk q_6 ha
    refine z_aload_n dX2_harm_27 rfl 0 rfl ?_
    refine z_aload_n dX2_harm_28 rfl 0 rfl ?_
    refine z_geti (c := 2) (k := 2) (g := 258) z_cb2 (Nat.le_of_ble_eq_true rfl) (Nat.le_of_ble_eq_true rfl) rfl (Nat.le_of_ble_eq_true rfl) zw_315 rfl ha dX2_harm_29 ?_
    refine z_puti (c := 2) (k := 5) (g := 261) z_cb2 (Nat.le_of_ble_eq_true rfl) (Nat.le_of_ble_eq_true rfl) (Nat.le_of_ble_eq_true rfl) rfl rfl rfl zw_320 rfl ha (Or.inl rfl) dX2_harm_32 ?_
    refine z_nm (fun M_8 g_8 => ?_)
    replace hP := hP M_8 g_8
    have q_8 := z_k1 g_8
    have ha := z_kk q_8 ha
    refine z_aload_n dX2_harm_35 rfl 0 rfl ?_
    refine z_pc (pc' := 36) rfl ?_
    refine z_iload dX2_harm_36 4 rfl ?_
    refine z_puti (c := 2) (k := 6) (g := 262) z_cb2 (Nat.le_of_ble_eq_true rfl) (Nat.le_of_ble_eq_true rfl) (Nat.le_of_ble_eq_true rfl) rfl rfl rfl zw_321 rfl ha (Or.inl rfl) dX2_harm_38 ?_
    refine z_nm (fun M_9 g_9 => ?_)
    replace hP := hP M_9 g_9
    have q_9 := z_k1 g_9
    have ha := z_kk q_9 ha
    refine z_aload_n dX2_harm_41 rfl 0 rfl ?_
    refine z_iload_n dX2_harm_42 rfl 3 rfl ?_
    refine z_puti (c := 2) (k := 7) (g := 263) z_cb2 (Nat.le_of_ble_eq_true rfl) (Nat.le_of_ble_eq_true rfl) (Nat.le_of_ble_eq_true rfl) rfl rfl rfl zw_322 rfl ha (Or.inl rfl) dX2_harm_43 ?_
    refine z_nm (fun M_10 g_10 => ?_)
    replace hP := hP M_10 g_10
    have q_10 := z_k1 g_10
    have ha := z_kk q_10 ha
    refine z_aload_n dX2_harm_46 rfl 0 rfl ?_
    refine z_pc (pc' := 47) rfl ?_
    refine z_iload_n dX2_harm_47 rfl 2 rfl ?_
    refine z_puti (c := 2) (k := 8) (g := 264) z_cb2 (Nat.le_of_ble_eq_true rfl) (Nat.le_of_ble_eq_true rfl) (Nat.le_of_ble_eq_true rfl) rfl rfl rfl zw_323 rfl ha (Or.inl rfl) dX2_harm_48 ?_
    refine z_nm (fun M_11 g_11 => ?_)
    replace hP := hP M_11 g_11
    have q_11 := z_k1 g_11
    have ha := z_kk q_11 ha
    refine z_aload_n dX2_harm_51 rfl 0 rfl ?_
    refine z_geti (c := 2) (k := 0) (g := 256) z_cb2 (Nat.le_of_ble_eq_true rfl) (Nat.le_of_ble_eq_true rfl) rfl (Nat.le_of_ble_eq_true rfl) zw_310 rfl ha dX2_harm_52 ?_
    refine z_iconst (v := 2) dX2_harm_55 (by decide) ?_
    refine z_icmp_eq (tgt := 103) dX2_harm_56 (by decide) (fun h13 => ?_) (fun h13 => ?_)
    · replace hP := hP.1 h13
      exact z_retv rfl dX2_harm_103 hP
    · replace hP := hP.2 h13
      refine z_aload_n dX2_harm_59 rfl 0 rfl ?_
      refine z_pc (pc' := 60) rfl ?_
      refine z_bipush (v := 32) dX2_harm_60 (by decide) ?_
      refine z_aload_n dX2_harm_62 rfl 0 rfl ?_
      refine z_geti (c := 2) (k := 0) (g := 256) z_cb2 (Nat.le_of_ble_eq_true rfl) (Nat.le_of_ble_eq_true rfl) rfl (Nat.le_of_ble_eq_true rfl) zw_310 rfl ha dX2_harm_63 ?_
      refine z_iconst (v := 1) dX2_harm_66 (by decide) ?_
      refine z_icmp_ne (tgt := 83) dX2_harm_67 (by decide) (fun h15 => ?_) (fun h15 => ?_)
      · replace hP := hP.2 h15
        refine z_aload_n dX2_harm_83 rfl 0 rfl ?_
        refine z_geti (c := 2) (k := 1) (g := 257) z_cb2 (Nat.le_of_ble_eq_true rfl) (Nat.le_of_ble_eq_true rfl) rfl (Nat.le_of_ble_eq_true rfl) zw_312 rfl ha dX2_harm_84 ?_
        refine z_pc (pc' := 87) rfl ?_
        refine z_iconst (v := 2) dX2_harm_87 (by decide) ?_
        refine z_idiv dX2_harm_88 (by decide) ?_
        refine z_mmax zw_976 zw_102 zw_5 zw_103 dX2_harm_89 (Nat.le_of_ble_eq_true rfl) (Nat.le_of_ble_eq_true rfl) ?_
        refine z_puti (c := 2) (k := 1) (g := 257) z_cb2 (Nat.le_of_ble_eq_true rfl) (Nat.le_of_ble_eq_true rfl) (Nat.le_of_ble_eq_true rfl) rfl rfl rfl zw_312 rfl ha (Or.inl rfl) dX2_harm_92 ?_
        refine z_nm (fun M_17 g_17 => ?_)
        replace hP := hP M_17 g_17
        have q_17 := z_k1 g_17
        have ha := z_kk q_17 ha
        refine z_aload_n dX2_harm_95 rfl 0 rfl ?_
        refine z_aload_n dX2_harm_96 rfl 0 rfl ?_
        refine z_pc (pc' := 97) rfl ?_
        refine z_geti (c := 2) (k := 1) (g := 257) z_cb2 (Nat.le_of_ble_eq_true rfl) (Nat.le_of_ble_eq_true rfl) rfl (Nat.le_of_ble_eq_true rfl) zw_312 rfl ha dX2_harm_97 ?_
        refine z_puti (c := 2) (k := 2) (g := 258) z_cb2 (Nat.le_of_ble_eq_true rfl) (Nat.le_of_ble_eq_true rfl) (Nat.le_of_ble_eq_true rfl) rfl rfl rfl zw_315 rfl ha (Or.inl rfl) dX2_harm_100 ?_
        refine z_nm (fun M_19 g_19 => ?_)
        replace hP := hP M_19 g_19
        have q_19 := z_k1 g_19
        have ha := z_kk q_19 ha
        exact z_retv rfl dX2_harm_103 hP
      · replace hP := hP.1 h15
        refine z_aload_n dX2_harm_70 rfl 0 rfl ?_
        refine z_geti (c := 2) (k := 1) (g := 257) z_cb2 (Nat.le_of_ble_eq_true rfl) (Nat.le_of_ble_eq_true rfl) rfl (Nat.le_of_ble_eq_true rfl) zw_312 rfl ha dX2_harm_71 ?_
        refine z_pc (pc' := 74) rfl ?_
        refine z_bipush (v := 7) dX2_harm_74 (by decide) ?_
        refine z_imul dX2_harm_76 ?_
        refine z_bipush (v := 10) dX2_harm_77 (by decide) ?_
        refine z_idiv dX2_harm_79 (by decide) ?_
        refine z_goto (tgt := 89) dX2_harm_80 (by decide) ?_
        refine z_mmax zw_976 zw_102 zw_5 zw_103 dX2_harm_89 (Nat.le_of_ble_eq_true rfl) (Nat.le_of_ble_eq_true rfl) ?_
        refine z_puti (c := 2) (k := 1) (g := 257) z_cb2 (Nat.le_of_ble_eq_true rfl) (Nat.le_of_ble_eq_true rfl) (Nat.le_of_ble_eq_true rfl) rfl rfl rfl zw_312 rfl ha (Or.inl rfl) dX2_harm_92 ?_
        refine z_nm (fun M_21 g_21 => ?_)
        replace hP := hP M_21 g_21
        have q_21 := z_k1 g_21
        have ha := z_kk q_21 ha
        refine z_pc (pc' := 95) rfl ?_
        refine z_aload_n dX2_harm_95 rfl 0 rfl ?_
        refine z_aload_n dX2_harm_96 rfl 0 rfl ?_
        refine z_geti (c := 2) (k := 1) (g := 257) z_cb2 (Nat.le_of_ble_eq_true rfl) (Nat.le_of_ble_eq_true rfl) rfl (Nat.le_of_ble_eq_true rfl) zw_312 rfl ha dX2_harm_97 ?_
        refine z_puti (c := 2) (k := 2) (g := 258) z_cb2 (Nat.le_of_ble_eq_true rfl) (Nat.le_of_ble_eq_true rfl) (Nat.le_of_ble_eq_true rfl) rfl rfl rfl zw_315 rfl ha (Or.inl rfl) dX2_harm_100 ?_
        refine z_nm (fun M_23 g_23 => ?_)
        replace hP := hP M_23 g_23
        have q_23 := z_k1 g_23
        have ha := z_kk q_23 ha
        exact z_retv rfl dX2_harm_103 hP
  · replace hP := hP.2 h2
    exact z_retv rfl dX2_harm_8 hP
def P_X1_hearOfGreatest_31 (a : Nat) (Post : z_Mem → Prop)  (x1 : Option Nat) (x3 : Int32) (x4 : Option Nat) (M : z_Mem) : Prop := ((x3 ≤ (z_fi M 146 a) → Post M) ∧ (¬ x3 ≤ (z_fi M 146 a) → ∀ M_3 : z_Mem, M_3 = z_sfi M 146 a x3 → (z_nn x4 fun a4 => (z_nn x1 fun a6 => (z_nn (z_fr M_3 128 a) fun a10 => (z_nn (z_fr M_3 897 a4) fun a13 => (P_X2_harm a13 (z_fi M_3 768 a6) (-1) (z_fi M_3 133 a) (z_fi M_3 645 a10) M_3 fun M_12 => (Post M_12))))))))
set_option maxRecDepth 100000 in
def P_X1_hearOfGreatest (a : Nat) (p1 : Option Nat) (p2 : Int32) (p3 : Int32) (M : z_Mem) (Post : z_Mem → Prop) : Prop := z_nn p1 fun a14 => (P_X1_routeOf a (z_fi M 769 a14) M fun x_16 M_16 => (((p2 = 0 → P_X1_hearOfGreatest_31 a Post p1 p3 x_16 M_16) ∧ (¬ p2 = 0 → z_nn (z_fr M_16 128 a) fun a19 => (z_nn x_16 fun a23 => (P_X7_measure a23 ((z_fi M_16 645 a19) - (z_fi M_16 770 a14)) M_16 fun M_22 => (P_X1_hearOfGreatest_31 a Post p1 p3 x_16 M_22)))))))
set_option maxRecDepth 100000 in
set_option maxHeartbeats 4000000 in
theorem v_X1_hearOfGreatest_31 {G : z_G} {M0 : z_Mem} {a : Nat} {Post : z_Mem → Prop}   {x1 : Option Nat} {x3 : Int32} {x4 : Option Nat} {M : z_Mem} (ha : z_ki M a = 2) (f_x1 : z_tr M x1 7) (f_x4 : z_tr M x4 8) (hP : P_X1_hearOfGreatest_31 a Post x1 x3 x4 M) : z_V G Y_X1_hearOfGreatest z_X0 M0 (z_QM G M0 (z_PV Post)) M 31 [(0, z_O (some a)), (1, z_O x1), (3, z_I x3), (4, z_O x4)] [] := by
  unfold P_X1_hearOfGreatest_31 at hP
  refine z_iload_n dX1_hearOfGreatest_31 rfl 2 rfl ?_
  refine z_aload_n dX1_hearOfGreatest_32 rfl 0 rfl ?_
  refine z_geti (c := 1) (k := 18) (g := 146) z_cb1 (Nat.le_of_ble_eq_true rfl) (Nat.le_of_ble_eq_true rfl) rfl (Nat.le_of_ble_eq_true rfl) zw_449 rfl ha dX1_hearOfGreatest_33 ?_
  refine z_icmp_le (tgt := 68) dX1_hearOfGreatest_36 (by decide) (fun h2 => ?_) (fun h2 => ?_)
  · replace hP := hP.1 h2
    exact z_retv rfl dX1_hearOfGreatest_68 hP
  · replace hP := hP.2 h2
    refine z_aload_n dX1_hearOfGreatest_39 rfl 0 rfl ?_
    refine z_iload_n dX1_hearOfGreatest_40 rfl 2 rfl ?_
    refine z_puti (c := 1) (k := 18) (g := 146) z_cb1 (Nat.le_of_ble_eq_true rfl) (Nat.le_of_ble_eq_true rfl) (Nat.le_of_ble_eq_true rfl) rfl rfl rfl zw_449 rfl ha (Or.inl rfl) dX1_hearOfGreatest_41 ?_
    refine z_nm (fun M_3 g_3 => ?_)
    replace hP := hP M_3 g_3
    have q_3 := z_k1 g_3
    have ha := z_kk q_3 ha
    have f_x1 := z_trk q_3 f_x1
    have f_x4 := z_trk q_3 f_x4
    refine z_pc (pc' := 44) rfl ?_
    refine z_aload dX1_hearOfGreatest_44 3 rfl ?_
    obtain ⟨a4, e4, hP⟩ := hP
    have k4 := f_x4 a4 e4
    refine z_getr (c := 7) (k := 1) (g := 897) (t := 3) z_cb7 (Nat.le_of_ble_eq_true rfl) (Nat.le_of_ble_eq_true rfl) rfl rfl zw_353 e4 k4 dX1_hearOfGreatest_46 (fun f5 => ?_)
    refine z_aload_n dX1_hearOfGreatest_49 rfl 1 rfl ?_
    obtain ⟨a6, e6, hP⟩ := hP
    have k6 := f_x1 a6 e6
    refine z_geti (c := 6) (k := 0) (g := 768) z_cb6 (Nat.le_of_ble_eq_true rfl) (Nat.le_of_ble_eq_true rfl) rfl (Nat.le_of_ble_eq_true rfl) zw_1059 e6 k6 dX1_hearOfGreatest_50 ?_
    refine z_iconst (v := (-1)) dX1_hearOfGreatest_53 (by decide) ?_
    refine z_aload_n dX1_hearOfGreatest_54 rfl 0 rfl ?_
    refine z_pc (pc' := 55) rfl ?_
    refine z_geti (c := 1) (k := 5) (g := 133) z_cb1 (Nat.le_of_ble_eq_true rfl) (Nat.le_of_ble_eq_true rfl) rfl (Nat.le_of_ble_eq_true rfl) zw_430 rfl ha dX1_hearOfGreatest_55 ?_
    refine z_aload_n dX1_hearOfGreatest_58 rfl 0 rfl ?_
    refine z_getr (c := 1) (k := 0) (g := 128) (t := 6) z_cb1 (Nat.le_of_ble_eq_true rfl) (Nat.le_of_ble_eq_true rfl) rfl rfl zw_425 rfl ha dX1_hearOfGreatest_59 (fun f9 => ?_)
    obtain ⟨a10, e10, hP⟩ := hP
    have k10 := f9 a10 e10
    refine z_geti (c := 5) (k := 5) (g := 645) z_cb5 (Nat.le_of_ble_eq_true rfl) (Nat.le_of_ble_eq_true rfl) rfl (Nat.le_of_ble_eq_true rfl) zw_166 e10 k10 dX1_hearOfGreatest_62 ?_
    obtain ⟨a13, e13, hP⟩ := hP
    have k13 := f5 a13 e13
    refine z_wts (fun hT12 _ => ?_)
    refine z_cVv (c := 2) (n := 4) (Y1 := Y_X2_harm) (st := []) e13 k13 z_cb2 (Nat.le_of_ble_eq_true rfl) rfl (s_X2_harm k13 hP) rfl ⟨z_dc_X2_harm, ⟨(Nat.le_of_ble_eq_true rfl), (Nat.le_of_ble_eq_true rfl)⟩, (Nat.le_of_ble_eq_true rfl)⟩ rfl zw_1007 zw_1008 zw_1009 zw_11 zw_1010 dX1_hearOfGreatest_65 (fun M_12 hP _ x12 => ?_)
    have ha := x12.k (k := 1) hT12 ha
    have k6 := x12.k (k := 6) hT12 k6
    have k4 := x12.k (k := 7) hT12 k4
    exact z_retv rfl dX1_hearOfGreatest_68 hP
set_option maxRecDepth 100000 in
set_option maxHeartbeats 4000000 in
theorem s_X1_hearOfGreatest {G : z_G} {M : z_Mem} {a : Nat} {p1 : Option Nat} {p2 : Int32} {p3 : Int32} {Post : z_Mem → Prop} (ha : z_ki M a = 2) (f_p1 : z_tr M p1 7) (f_p2 : p2 = 0 ∨ p2 = 1) (hP : P_X1_hearOfGreatest a p1 p2 p3 M Post) : z_Mt G Y_X1_hearOfGreatest M [z_O (some a), z_O p1, z_I p2, z_I p3] (z_PV Post) := by
  refine z_ofV (by decide) (Nat.le_of_ble_eq_true rfl) ?_
  unfold P_X1_hearOfGreatest at hP
  refine z_sub (lv' := [(0, z_O (some a)), (1, z_O p1), (2, z_I p2), (3, z_I p3)]) [0, 1, 2, 3] rfl ?_
  refine z_aload_n dX1_hearOfGreatest_0 rfl 0 rfl ?_
  refine z_aload_n dX1_hearOfGreatest_1 rfl 1 rfl ?_
  obtain ⟨a14, e14, hP⟩ := hP
  have k14 := f_p1 a14 e14
  refine z_geti (c := 6) (k := 1) (g := 769) z_cb6 (Nat.le_of_ble_eq_true rfl) (Nat.le_of_ble_eq_true rfl) rfl (Nat.le_of_ble_eq_true rfl) zw_1061 e14 k14 dX1_hearOfGreatest_2 ?_
  refine z_wts (fun hT16 _ => ?_)
  refine z_cVo (c := 1) (n := 1) (Y1 := Y_X1_routeOf) (st := []) rfl ha z_cb1 (Nat.le_of_ble_eq_true rfl) rfl (s_X1_routeOf ha hP) rfl ⟨z_dc_X1_routeOf, ⟨(Nat.le_of_ble_eq_true rfl), (Nat.le_of_ble_eq_true rfl)⟩, (Nat.le_of_ble_eq_true rfl)⟩ rfl zw_929 zw_818 zw_819 zw_9 zw_820 dX1_hearOfGreatest_5 (fun x_16 M_16 f16 hP _ x16 => ?_)
  have ha := x16.k (k := 1) hT16 ha
  have k14 := x16.k (k := 6) hT16 k14
  refine z_astore (lv' := [(4, z_O _), (0, z_O _), (1, z_O _), (2, z_I _), (3, z_I _)]) dX1_hearOfGreatest_8 (Nat.le_of_ble_eq_true rfl) rfl ?_
  refine z_iload_n dX1_hearOfGreatest_10 rfl 3 rfl ?_
  refine z_pc (pc' := 11) rfl ?_
  refine z_if_eq (tgt := 31) dX1_hearOfGreatest_11 (by decide) (fun h17 => ?_) (fun h17 => ?_)
  · replace hP := hP.1 h17
    refine z_sub (lv' := [(0, z_O _), (1, z_O _), (3, z_I _), (4, z_O _)]) [1, 2, 4, 0] rfl ?_
    exact v_X1_hearOfGreatest_31  ha (z_trn e14 k14) f16 hP
  · replace hP := hP.2 h17
    refine z_aload dX1_hearOfGreatest_14 0 rfl ?_
    refine z_aload_n dX1_hearOfGreatest_16 rfl 1 rfl ?_
    refine z_getr (c := 1) (k := 0) (g := 128) (t := 6) z_cb1 (Nat.le_of_ble_eq_true rfl) (Nat.le_of_ble_eq_true rfl) rfl rfl zw_425 rfl ha dX1_hearOfGreatest_17 (fun f18 => ?_)
    obtain ⟨a19, e19, hP⟩ := hP
    have k19 := f18 a19 e19
    refine z_geti (c := 5) (k := 5) (g := 645) z_cb5 (Nat.le_of_ble_eq_true rfl) (Nat.le_of_ble_eq_true rfl) rfl (Nat.le_of_ble_eq_true rfl) zw_166 e19 k19 dX1_hearOfGreatest_20 ?_
    refine z_aload_n dX1_hearOfGreatest_23 rfl 2 rfl ?_
    refine z_geti (c := 6) (k := 2) (g := 770) z_cb6 (Nat.le_of_ble_eq_true rfl) (Nat.le_of_ble_eq_true rfl) rfl (Nat.le_of_ble_eq_true rfl) zw_1065 e14 k14 dX1_hearOfGreatest_24 ?_
    refine z_pc (pc' := 27) rfl ?_
    refine z_isub dX1_hearOfGreatest_27 ?_
    obtain ⟨a23, e23, hP⟩ := hP
    have k23 := f16 a23 e23
    refine z_wts (fun hT22 _ => ?_)
    refine z_cVv (c := 7) (n := 1) (Y1 := Y_X7_measure) (st := []) e23 k23 z_cb7 (Nat.le_of_ble_eq_true rfl) rfl (s_X7_measure k23 hP) rfl ⟨z_dc_X7_measure, ⟨(Nat.le_of_ble_eq_true rfl), (Nat.le_of_ble_eq_true rfl)⟩, (Nat.le_of_ble_eq_true rfl)⟩ rfl zw_934 zw_935 zw_936 zw_10 zw_937 dX1_hearOfGreatest_28 (fun M_22 hP _ x22 => ?_)
    have ha := x22.k (k := 1) hT22 ha
    have k23 := x22.k (k := 7) hT22 k23
    have k14 := x22.k (k := 6) hT22 k14
    refine z_sub (lv' := [(0, z_O _), (1, z_O _), (3, z_I _), (4, z_O _)]) [1, 2, 4, 0] rfl ?_
    exact v_X1_hearOfGreatest_31  ha (z_trn e14 k14) (z_trn e23 k23) hP
set_option maxRecDepth 100000 in
def P_X1_takeCredits_2 (a : Nat) (Post : z_Mem → Prop)  : Nat → Option Nat → Int32 → z_Mem → Prop
  | 0, _, _, _ => False
  | n + 1, x1, x2, M => ((4 ≤ x2 → z_nn x1 fun a3 => (∀ M_5 : z_Mem, M_5 = z_sfi M 144 a ((if (z_fi M 144 a) < (z_fi M 5 a3) then (z_fi M 5 a3) else (z_fi M 144 a)) : Int32) → (Post M_5))) ∧ (¬ 4 ≤ x2 → z_nn (z_fr M 129 a) fun a7 => (vp_in x2 (z_ln M a7) ∧ (z_nn (z_fr M 129 a) fun a10 => (vp_in x2 (z_ln M a10) ∧ (z_nn (z_ar M a10 ((x2 : Int32).toNatClampNeg)) fun a12 => (z_nn x1 fun a14 => (z_nn (z_fr M 2 a14) fun a16 => (vp_in x2 (z_ln M a16) ∧ (z_nn (z_ar M a7 ((x2 : Int32).toNatClampNeg)) fun a18 => (∀ M_19 : z_Mem, M_19 = z_sfi M 1156 a18 ((if (z_fi M 1156 a12) < (z_ai M a16 ((x2 : Int32).toNatClampNeg)) then (z_ai M a16 ((x2 : Int32).toNatClampNeg)) else (z_fi M 1156 a12)) : Int32) → (∀ x_20 : Int32, x_20 = x2 + 1 → (P_X1_takeCredits_2 a Post n x1 x_20 M_19)))))))))))))
set_option maxRecDepth 100000 in
def P_X1_takeCredits (a : Nat) (p1 : Option Nat) (M : z_Mem) (Post : z_Mem → Prop) : Prop := (∃ n21 : Nat, P_X1_takeCredits_2 a Post n21 p1 0 M)
set_option maxRecDepth 100000 in
set_option maxHeartbeats 4000000 in
theorem v_X1_takeCredits_2 {G : z_G} {M0 : z_Mem} {a : Nat} {Post : z_Mem → Prop}   : ∀ (n : Nat) {x1 : Option Nat} {x2 : Int32} {M : z_Mem}, (z_ki M a = 2) → (z_tr M x1 1) → P_X1_takeCredits_2 a Post n x1 x2 M → z_V G Y_X1_takeCredits z_X0 M0 (z_QM G M0 (z_PV Post)) M 2 [(0, z_O (some a)), (1, z_O x1), (2, z_I x2)] [] := by
  intro n
  induction n with
  | zero => intro x1 x2 M ha f_x1 hP; exact False.elim hP
  | succ n ih =>
    intro x1 x2 M ha f_x1 hP
    unfold P_X1_takeCredits_2 at hP
    refine z_iload_n dX1_takeCredits_2 rfl 2 rfl ?_
    refine z_iconst (v := 4) dX1_takeCredits_3 (by decide) ?_
    refine z_icmp_ge (tgt := 40) dX1_takeCredits_4 (by decide) (fun h1 => ?_) (fun h1 => ?_)
    · replace hP := hP.1 h1
      refine z_aload_n dX1_takeCredits_40 rfl 0 rfl ?_
      refine z_aload_n dX1_takeCredits_41 rfl 0 rfl ?_
      refine z_geti (c := 1) (k := 16) (g := 144) z_cb1 (Nat.le_of_ble_eq_true rfl) (Nat.le_of_ble_eq_true rfl) rfl (Nat.le_of_ble_eq_true rfl) zw_446 rfl ha dX1_takeCredits_42 ?_
      refine z_aload_n dX1_takeCredits_45 rfl 1 rfl ?_
      refine z_pc (pc' := 46) rfl ?_
      obtain ⟨a3, e3, hP⟩ := hP
      have k3 := f_x1 a3 e3
      refine z_geti (c := 0) (k := 5) (g := 5) z_cb0 (Nat.le_of_ble_eq_true rfl) (Nat.le_of_ble_eq_true rfl) rfl (Nat.le_of_ble_eq_true rfl) zw_723 e3 k3 dX1_takeCredits_46 ?_
      refine z_mmax zw_998 zw_102 zw_5 zw_103 dX1_takeCredits_49 (Nat.le_of_ble_eq_true rfl) (Nat.le_of_ble_eq_true rfl) ?_
      refine z_puti (c := 1) (k := 16) (g := 144) z_cb1 (Nat.le_of_ble_eq_true rfl) (Nat.le_of_ble_eq_true rfl) (Nat.le_of_ble_eq_true rfl) rfl rfl rfl zw_446 rfl ha (Or.inl rfl) dX1_takeCredits_52 ?_
      refine z_nm (fun M_5 g_5 => ?_)
      replace hP := hP M_5 g_5
      have q_5 := z_k1 g_5
      have ha := z_kk q_5 ha
      have k3 := z_kk q_5 k3
      exact z_retv rfl dX1_takeCredits_55 hP
    · replace hP := hP.2 h1
      refine z_aload_n dX1_takeCredits_7 rfl 0 rfl ?_
      refine z_getr (c := 1) (k := 1) (g := 129) (t := 24) z_cb1 (Nat.le_of_ble_eq_true rfl) (Nat.le_of_ble_eq_true rfl) rfl rfl zw_426 rfl ha dX1_takeCredits_8 (fun f6 => ?_)
      refine z_iload_n dX1_takeCredits_11 rfl 2 rfl ?_
      obtain ⟨a7, e7, hP⟩ := hP
      have k7 := f6 a7 e7
      obtain ⟨i8, hP⟩ := hP
      refine z_aald (t := 24) e7 k7 (Nat.le_of_ble_eq_true rfl) (Nat.le_of_ble_eq_true rfl) i8 dX1_takeCredits_12 (fun f8 => ?_)
      refine z_pc (pc' := 13) rfl ?_
      refine z_aload_n dX1_takeCredits_13 rfl 0 rfl ?_
      refine z_getr (c := 1) (k := 1) (g := 129) (t := 24) z_cb1 (Nat.le_of_ble_eq_true rfl) (Nat.le_of_ble_eq_true rfl) rfl rfl zw_426 rfl ha dX1_takeCredits_14 (fun f9 => ?_)
      refine z_iload_n dX1_takeCredits_17 rfl 2 rfl ?_
      obtain ⟨a10, e10, hP⟩ := hP
      have k10 := f9 a10 e10
      obtain ⟨i11, hP⟩ := hP
      refine z_aald (t := 24) e10 k10 (Nat.le_of_ble_eq_true rfl) (Nat.le_of_ble_eq_true rfl) i11 dX1_takeCredits_18 (fun f11 => ?_)
      obtain ⟨a12, e12, hP⟩ := hP
      have k12 := f11 a12 e12
      refine z_geti (c := 9) (k := 4) (g := 1156) z_cb9 (Nat.le_of_ble_eq_true rfl) (Nat.le_of_ble_eq_true rfl) rfl (Nat.le_of_ble_eq_true rfl) zw_199 e12 k12 dX1_takeCredits_19 ?_
      refine z_aload_n dX1_takeCredits_22 rfl 1 rfl ?_
      refine z_pc (pc' := 23) rfl ?_
      obtain ⟨a14, e14, hP⟩ := hP
      have k14 := f_x1 a14 e14
      refine z_getr (c := 0) (k := 2) (g := 2) (t := 20) z_cb0 (Nat.le_of_ble_eq_true rfl) (Nat.le_of_ble_eq_true rfl) rfl rfl zw_717 e14 k14 dX1_takeCredits_23 (fun f15 => ?_)
      refine z_iload_n dX1_takeCredits_26 rfl 2 rfl ?_
      obtain ⟨a16, e16, hP⟩ := hP
      have k16 := f15 a16 e16
      obtain ⟨i17, hP⟩ := hP
      refine z_iald e16 k16 i17 dX1_takeCredits_27 ?_
      refine z_mmax zw_998 zw_102 zw_5 zw_103 dX1_takeCredits_28 (Nat.le_of_ble_eq_true rfl) (Nat.le_of_ble_eq_true rfl) ?_
      obtain ⟨a18, e18, hP⟩ := hP
      have k18 := f8 a18 e18
      refine z_puti (c := 9) (k := 4) (g := 1156) z_cb9 (Nat.le_of_ble_eq_true rfl) (Nat.le_of_ble_eq_true rfl) (Nat.le_of_ble_eq_true rfl) rfl rfl rfl zw_199 e18 k18 (Or.inl rfl) dX1_takeCredits_31 ?_
      refine z_nm (fun M_19 g_19 => ?_)
      replace hP := hP M_19 g_19
      have q_19 := z_k1 g_19
      have ha := z_kk q_19 ha
      have k14 := z_kk q_19 k14
      refine z_iincN (j := 2) (m := 1) (lv' := fun v => [(2, z_I v), (0, z_O _), (1, z_O _)]) dX1_takeCredits_34 rfl (by decide) (Nat.le_of_ble_eq_true rfl) (fun _ => rfl) (fun x_20 y_20 => ?_)
      replace hP := hP x_20 y_20
      refine z_pc (pc' := 37) rfl ?_
      refine z_goto (tgt := 2) dX1_takeCredits_37 (by decide) ?_
      refine z_sub (lv' := [(0, z_O _), (1, z_O _), (2, z_I _)]) [1, 2, 0] rfl ?_
      exact ih ha (z_trn e14 k14) hP
set_option maxRecDepth 100000 in
set_option maxHeartbeats 4000000 in
theorem s_X1_takeCredits {G : z_G} {M : z_Mem} {a : Nat} {p1 : Option Nat} {Post : z_Mem → Prop} (ha : z_ki M a = 2) (f_p1 : z_tr M p1 1) (hP : P_X1_takeCredits a p1 M Post) : z_Mt G Y_X1_takeCredits M [z_O (some a), z_O p1] (z_PV Post) := by
  refine z_ofV (by decide) (Nat.le_of_ble_eq_true rfl) ?_
  unfold P_X1_takeCredits at hP
  refine z_sub (lv' := [(0, z_O (some a)), (1, z_O p1)]) [0, 1] rfl ?_
  refine z_iconst (v := 0) dX1_takeCredits_0 (by decide) ?_
  refine z_istore_n (lv' := [(2, z_I _), (0, z_O _), (1, z_O _)]) dX1_takeCredits_1 rfl (Nat.le_of_ble_eq_true rfl) rfl ?_
  obtain ⟨n21, hP⟩ := hP
  refine z_sub (lv' := [(0, z_O _), (1, z_O _), (2, z_I _)]) [1, 2, 0] rfl ?_
  exact v_X1_takeCredits_2  n21 ha f_p1 hP
def P_X1_lowestInFlight_108 (a : Nat) (Post : Option Nat → z_Mem → Prop) (J58 : Option Nat → Int32 → z_Mem → Prop) (x1 : Option Nat) (x3 : Int32) (M : z_Mem) : Prop := ∀ x_1 : Int32, x_1 = x3 + 1 → (J58 x1 x_1 M)
set_option maxRecDepth 100000 in
def P_X1_lowestInFlight_58 (a : Nat) (Post : Option Nat → z_Mem → Prop)  : Nat → Option Nat → Int32 → z_Mem → Prop
  | 0, _, _, _ => False
  | n + 1, x1, x3, M => (((z_fi M 133 a) ≤ x3 → Post none M) ∧ (¬ (z_fi M 133 a) ≤ x3 → z_nn x1 fun a4 => ((((z_fi M 899 a4) ≤ 0 → Post none M) ∧ (¬ (z_fi M 899 a4) ≤ 0 → P_X1_packetAt a x3 M fun x_7 M_7 => (((x_7 = none → P_X1_lowestInFlight_108 a Post (fun q0 q1 qM => P_X1_lowestInFlight_58 a Post n q0 q1 qM) x1 x3 M_7) ∧ (∀ a8 : Nat, x_7 = some a8 → (((z_fi M_7 769 a8) = (z_fi M_7 896 a4) → (((z_fi M_7 778 a8) = 0 → Post x_7 M_7) ∧ (¬ (z_fi M_7 778 a8) = 0 → P_X1_lowestInFlight_108 a Post (fun q0 q1 qM => P_X1_lowestInFlight_58 a Post n q0 q1 qM) x1 x3 M_7))) ∧ (¬ (z_fi M_7 769 a8) = (z_fi M_7 896 a4) → P_X1_lowestInFlight_108 a Post (fun q0 q1 qM => P_X1_lowestInFlight_58 a Post n q0 q1 qM) x1 x3 M_7))))))))))
def P_X1_lowestInFlight_53 (a : Nat) (Post : Option Nat → z_Mem → Prop)  (x1 : Option Nat) (M : z_Mem) : Prop := ∀ x_15 : Int32, x_15 = (z_fi M 134 a) → ((∃ n16 : Nat, P_X1_lowestInFlight_58 a Post n16 x1 x_15 M))
set_option maxRecDepth 100000 in
def P_X1_lowestInFlight_9 (a : Nat) (Post : Option Nat → z_Mem → Prop)  : Nat → Option Nat → Option Nat → z_Mem → Prop
  | 0, _, _, _ => False
  | n + 1, x1, x2, M => (((z_fi M 133 a) ≤ (z_fi M 134 a) → P_X1_lowestInFlight_53 a Post x1 M) ∧ (¬ (z_fi M 133 a) ≤ (z_fi M 134 a) → ((x2 = none → P_X1_lowestInFlight_53 a Post x1 M) ∧ (∀ a20 : Nat, x2 = some a20 → (((z_fi M 778 a20) = 0 → P_X1_lowestInFlight_53 a Post x1 M) ∧ (¬ (z_fi M 778 a20) = 0 → ∀ M_24 : z_Mem, M_24 = z_sfi M 134 a ((z_fi M 134 a) + 1) → (P_X1_packetAt a (z_fi M_24 134 a) M_24 fun x_26 M_26 => (P_X1_lowestInFlight_9 a Post n x1 x_26 M_26))))))))
set_option maxRecDepth 100000 in
def P_X1_lowestInFlight (a : Nat) (p1 : Option Nat) (M : z_Mem) (Post : Option Nat → z_Mem → Prop) : Prop := P_X1_packetAt a (z_fi M 134 a) M fun x_28 M_28 => ((∃ n29 : Nat, P_X1_lowestInFlight_9 a Post n29 p1 x_28 M_28))
set_option maxRecDepth 100000 in
set_option maxHeartbeats 4000000 in
theorem v_X1_lowestInFlight_108 {G : z_G} {M0 : z_Mem} {a : Nat} {Post : Option Nat → z_Mem → Prop} {J58 : Option Nat → Int32 → z_Mem → Prop} (hJ58 : ∀ (x1 : Option Nat) (x3 : Int32) (M : z_Mem), (z_ki M a = 2) → (z_tr M x1 8) → J58 x1 x3 M → z_V G Y_X1_lowestInFlight z_X0 M0 (z_QM G M0 (z_PO 7 Post)) M 58 [(0, z_O (some a)), (1, z_O x1), (3, z_I x3)] []) {x1 : Option Nat} {x3 : Int32} {M : z_Mem} (ha : z_ki M a = 2) (f_x1 : z_tr M x1 8) (hP : P_X1_lowestInFlight_108 a Post J58 x1 x3 M) : z_V G Y_X1_lowestInFlight z_X0 M0 (z_QM G M0 (z_PO 7 Post)) M 108 [(0, z_O (some a)), (1, z_O x1), (3, z_I x3)] [] := by
  unfold P_X1_lowestInFlight_108 at hP
  refine z_iincN (j := 2) (m := 1) (lv' := fun v => [(3, z_I v), (0, z_O _), (1, z_O _)]) dX1_lowestInFlight_108 rfl (by decide) (Nat.le_of_ble_eq_true rfl) (fun _ => rfl) (fun x_1 y_1 => ?_)
  replace hP := hP x_1 y_1
  refine z_goto (tgt := 58) dX1_lowestInFlight_111 (by decide) ?_
  refine z_sub (lv' := [(0, z_O _), (1, z_O _), (3, z_I _)]) [1, 2, 0] rfl ?_
  exact hJ58 _ _ _ ha f_x1 hP
set_option maxRecDepth 100000 in
set_option maxHeartbeats 4000000 in
theorem v_X1_lowestInFlight_58 {G : z_G} {M0 : z_Mem} {a : Nat} {Post : Option Nat → z_Mem → Prop}   : ∀ (n : Nat) {x1 : Option Nat} {x3 : Int32} {M : z_Mem}, (z_ki M a = 2) → (z_tr M x1 8) → P_X1_lowestInFlight_58 a Post n x1 x3 M → z_V G Y_X1_lowestInFlight z_X0 M0 (z_QM G M0 (z_PO 7 Post)) M 58 [(0, z_O (some a)), (1, z_O x1), (3, z_I x3)] [] := by
  intro n
  induction n with
  | zero => intro x1 x3 M ha f_x1 hP; exact False.elim hP
  | succ n ih =>
    intro x1 x3 M ha f_x1 hP
    unfold P_X1_lowestInFlight_58 at hP
    refine z_iload_n dX1_lowestInFlight_58 rfl 2 rfl ?_
    refine z_aload_n dX1_lowestInFlight_59 rfl 0 rfl ?_
    refine z_geti (c := 1) (k := 5) (g := 133) z_cb1 (Nat.le_of_ble_eq_true rfl) (Nat.le_of_ble_eq_true rfl) rfl (Nat.le_of_ble_eq_true rfl) zw_430 rfl ha dX1_lowestInFlight_60 ?_
    refine z_icmp_ge (tgt := 114) dX1_lowestInFlight_63 (by decide) (fun h3 => ?_) (fun h3 => ?_)
    · replace hP := hP.1 h3
      refine z_null dX1_lowestInFlight_114 ?_
      exact z_reto (k := 7) rfl z_tr0 dX1_lowestInFlight_115 hP
    · replace hP := hP.2 h3
      refine z_aload_n dX1_lowestInFlight_66 rfl 1 rfl ?_
      obtain ⟨a4, e4, hP⟩ := hP
      have k4 := f_x1 a4 e4
      refine z_geti (c := 7) (k := 3) (g := 899) z_cb7 (Nat.le_of_ble_eq_true rfl) (Nat.le_of_ble_eq_true rfl) rfl (Nat.le_of_ble_eq_true rfl) zw_358 e4 k4 dX1_lowestInFlight_67 ?_
      refine z_if_le (tgt := 114) dX1_lowestInFlight_70 (by decide) (fun h6 => ?_) (fun h6 => ?_)
      · replace hP := hP.1 h6
        refine z_null dX1_lowestInFlight_114 ?_
        refine z_pc (pc' := 115) rfl ?_
        exact z_reto (k := 7) rfl z_tr0 dX1_lowestInFlight_115 hP
      · replace hP := hP.2 h6
        refine z_aload_n dX1_lowestInFlight_73 rfl 0 rfl ?_
        refine z_pc (pc' := 74) rfl ?_
        refine z_iload_n dX1_lowestInFlight_74 rfl 2 rfl ?_
        refine z_wts (fun hT7 _ => ?_)
        refine z_cVo (c := 1) (n := 1) (Y1 := Y_X1_packetAt) (st := []) rfl ha z_cb1 (Nat.le_of_ble_eq_true rfl) rfl (s_X1_packetAt ha hP) rfl ⟨z_dc_X1_packetAt, ⟨(Nat.le_of_ble_eq_true rfl), (Nat.le_of_ble_eq_true rfl)⟩, (Nat.le_of_ble_eq_true rfl)⟩ rfl zw_849 zw_850 zw_851 zw_9 zw_852 dX1_lowestInFlight_75 (fun x_7 M_7 f7 hP _ x7 => ?_)
        have ha := x7.k (k := 1) hT7 ha
        have k4 := x7.k (k := 7) hT7 k4
        refine z_astore (lv' := [(4, z_O _), (0, z_O _), (1, z_O _), (3, z_I _)]) dX1_lowestInFlight_78 (Nat.le_of_ble_eq_true rfl) rfl ?_
        refine z_aload dX1_lowestInFlight_80 0 rfl ?_
        refine z_ifnull (tgt := 108) dX1_lowestInFlight_82 (by decide) (fun h8 => ?_) (fun a8 e8 => ?_)
        · replace hP := hP.1 h8
          refine z_sub (lv' := [(0, z_O _), (1, z_O _), (3, z_I _)]) [1, 2, 3] rfl ?_
          exact v_X1_lowestInFlight_108 (fun _ _ _ w0 w1 hP => ih w0 w1 hP) ha (z_trn e4 k4) hP
        · replace hP := hP.2 a8 e8
          have k8 := f7 a8 e8
          refine z_aload dX1_lowestInFlight_85 0 rfl ?_
          refine z_geti (c := 6) (k := 1) (g := 769) z_cb6 (Nat.le_of_ble_eq_true rfl) (Nat.le_of_ble_eq_true rfl) rfl (Nat.le_of_ble_eq_true rfl) zw_1061 e8 k8 dX1_lowestInFlight_87 ?_
          refine z_pc (pc' := 90) rfl ?_
          refine z_aload_n dX1_lowestInFlight_90 rfl 2 rfl ?_
          refine z_geti (c := 7) (k := 0) (g := 896) z_cb7 (Nat.le_of_ble_eq_true rfl) (Nat.le_of_ble_eq_true rfl) rfl (Nat.le_of_ble_eq_true rfl) zw_350 e4 k4 dX1_lowestInFlight_91 ?_
          refine z_icmp_ne (tgt := 108) dX1_lowestInFlight_94 (by decide) (fun h11 => ?_) (fun h11 => ?_)
          · replace hP := hP.2 h11
            refine z_sub (lv' := [(0, z_O _), (1, z_O _), (3, z_I _)]) [1, 2, 3] rfl ?_
            exact v_X1_lowestInFlight_108 (fun _ _ _ w0 w1 hP => ih w0 w1 hP) ha (z_trn e4 k4) hP
          · replace hP := hP.1 h11
            refine z_aload dX1_lowestInFlight_97 0 rfl ?_
            refine z_geti (c := 6) (k := 10) (g := 778) z_cb6 (Nat.le_of_ble_eq_true rfl) (Nat.le_of_ble_eq_true rfl) rfl (Nat.le_of_ble_eq_true rfl) zw_1092 e8 k8 dX1_lowestInFlight_99 ?_
            refine z_if_ne (tgt := 108) dX1_lowestInFlight_102 (by decide) (fun h13 => ?_) (fun h13 => ?_)
            · replace hP := hP.2 h13
              refine z_sub (lv' := [(0, z_O _), (1, z_O _), (3, z_I _)]) [1, 2, 3] rfl ?_
              exact v_X1_lowestInFlight_108 (fun _ _ _ w0 w1 hP => ih w0 w1 hP) ha (z_trn e4 k4) hP
            · replace hP := hP.1 h13
              refine z_aload dX1_lowestInFlight_105 0 rfl ?_
              exact z_reto (k := 7) rfl (z_trn e8 k8) dX1_lowestInFlight_107 hP
set_option maxRecDepth 100000 in
set_option maxHeartbeats 4000000 in
theorem v_X1_lowestInFlight_53 {G : z_G} {M0 : z_Mem} {a : Nat} {Post : Option Nat → z_Mem → Prop}   {x1 : Option Nat} {M : z_Mem} (ha : z_ki M a = 2) (f_x1 : z_tr M x1 8) (hP : P_X1_lowestInFlight_53 a Post x1 M) : z_V G Y_X1_lowestInFlight z_X0 M0 (z_QM G M0 (z_PO 7 Post)) M 53 [(0, z_O (some a)), (1, z_O x1)] [] := by
  unfold P_X1_lowestInFlight_53 at hP
  refine z_aload_n dX1_lowestInFlight_53 rfl 0 rfl ?_
  refine z_geti (c := 1) (k := 6) (g := 134) z_cb1 (Nat.le_of_ble_eq_true rfl) (Nat.le_of_ble_eq_true rfl) rfl (Nat.le_of_ble_eq_true rfl) zw_432 rfl ha dX1_lowestInFlight_54 ?_
  refine z_topi (fun x_15 y_15 => ?_)
  replace hP := hP x_15 y_15
  refine z_istore_n (lv' := [(3, z_I _), (0, z_O _), (1, z_O _)]) dX1_lowestInFlight_57 rfl (Nat.le_of_ble_eq_true rfl) rfl ?_
  obtain ⟨n16, hP⟩ := hP
  refine z_sub (lv' := [(0, z_O _), (1, z_O _), (3, z_I _)]) [1, 2, 0] rfl ?_
  exact v_X1_lowestInFlight_58  n16 ha f_x1 hP
set_option maxRecDepth 100000 in
set_option maxHeartbeats 4000000 in
theorem v_X1_lowestInFlight_9 {G : z_G} {M0 : z_Mem} {a : Nat} {Post : Option Nat → z_Mem → Prop}   : ∀ (n : Nat) {x1 : Option Nat} {x2 : Option Nat} {M : z_Mem}, (z_ki M a = 2) → (z_tr M x1 8) → (z_tr M x2 7) → P_X1_lowestInFlight_9 a Post n x1 x2 M → z_V G Y_X1_lowestInFlight z_X0 M0 (z_QM G M0 (z_PO 7 Post)) M 9 [(0, z_O (some a)), (1, z_O x1), (2, z_O x2)] [] := by
  intro n
  induction n with
  | zero => intro x1 x2 M ha f_x1 f_x2 hP; exact False.elim hP
  | succ n ih =>
    intro x1 x2 M ha f_x1 f_x2 hP
    unfold P_X1_lowestInFlight_9 at hP
    refine z_aload_n dX1_lowestInFlight_9 rfl 0 rfl ?_
    refine z_geti (c := 1) (k := 6) (g := 134) z_cb1 (Nat.le_of_ble_eq_true rfl) (Nat.le_of_ble_eq_true rfl) rfl (Nat.le_of_ble_eq_true rfl) zw_432 rfl ha dX1_lowestInFlight_10 ?_
    refine z_aload_n dX1_lowestInFlight_13 rfl 0 rfl ?_
    refine z_geti (c := 1) (k := 5) (g := 133) z_cb1 (Nat.le_of_ble_eq_true rfl) (Nat.le_of_ble_eq_true rfl) rfl (Nat.le_of_ble_eq_true rfl) zw_430 rfl ha dX1_lowestInFlight_14 ?_
    refine z_icmp_ge (tgt := 53) dX1_lowestInFlight_17 (by decide) (fun h19 => ?_) (fun h19 => ?_)
    · replace hP := hP.1 h19
      refine z_sub (lv' := [(0, z_O _), (1, z_O _)]) [0, 1] rfl ?_
      exact v_X1_lowestInFlight_53  ha f_x1 hP
    · replace hP := hP.2 h19
      refine z_aload_n dX1_lowestInFlight_20 rfl 2 rfl ?_
      refine z_ifnull (tgt := 53) dX1_lowestInFlight_21 (by decide) (fun h20 => ?_) (fun a20 e20 => ?_)
      · replace hP := hP.1 h20
        refine z_sub (lv' := [(0, z_O _), (1, z_O _)]) [0, 1] rfl ?_
        exact v_X1_lowestInFlight_53  ha f_x1 hP
      · replace hP := hP.2 a20 e20
        have k20 := f_x2 a20 e20
        refine z_aload_n dX1_lowestInFlight_24 rfl 2 rfl ?_
        refine z_pc (pc' := 25) rfl ?_
        refine z_geti (c := 6) (k := 10) (g := 778) z_cb6 (Nat.le_of_ble_eq_true rfl) (Nat.le_of_ble_eq_true rfl) rfl (Nat.le_of_ble_eq_true rfl) zw_1092 e20 k20 dX1_lowestInFlight_25 ?_
        refine z_if_eq (tgt := 53) dX1_lowestInFlight_28 (by decide) (fun h22 => ?_) (fun h22 => ?_)
        · replace hP := hP.1 h22
          refine z_sub (lv' := [(0, z_O _), (1, z_O _)]) [0, 1] rfl ?_
          exact v_X1_lowestInFlight_53  ha f_x1 hP
        · replace hP := hP.2 h22
          refine z_aload_n dX1_lowestInFlight_31 rfl 0 rfl ?_
          refine z_dup dX1_lowestInFlight_32 rfl ?_
          refine z_geti (c := 1) (k := 6) (g := 134) z_cb1 (Nat.le_of_ble_eq_true rfl) (Nat.le_of_ble_eq_true rfl) rfl (Nat.le_of_ble_eq_true rfl) zw_432 rfl ha dX1_lowestInFlight_33 ?_
          refine z_iconst (v := 1) dX1_lowestInFlight_36 (by decide) ?_
          refine z_iadd dX1_lowestInFlight_37 ?_
          refine z_pc (pc' := 38) rfl ?_
          refine z_puti (c := 1) (k := 6) (g := 134) z_cb1 (Nat.le_of_ble_eq_true rfl) (Nat.le_of_ble_eq_true rfl) (Nat.le_of_ble_eq_true rfl) rfl rfl rfl zw_432 rfl ha (Or.inl rfl) dX1_lowestInFlight_38 ?_
          refine z_nm (fun M_24 g_24 => ?_)
          replace hP := hP M_24 g_24
          have q_24 := z_k1 g_24
          have ha := z_kk q_24 ha
          have f_x1 := z_trk q_24 f_x1
          have k20 := z_kk q_24 k20
          refine z_aload_n dX1_lowestInFlight_41 rfl 0 rfl ?_
          refine z_aload_n dX1_lowestInFlight_42 rfl 0 rfl ?_
          refine z_geti (c := 1) (k := 6) (g := 134) z_cb1 (Nat.le_of_ble_eq_true rfl) (Nat.le_of_ble_eq_true rfl) rfl (Nat.le_of_ble_eq_true rfl) zw_432 rfl ha dX1_lowestInFlight_43 ?_
          refine z_wts (fun hT26 _ => ?_)
          refine z_cVo (c := 1) (n := 1) (Y1 := Y_X1_packetAt) (st := []) rfl ha z_cb1 (Nat.le_of_ble_eq_true rfl) rfl (s_X1_packetAt ha hP) rfl ⟨z_dc_X1_packetAt, ⟨(Nat.le_of_ble_eq_true rfl), (Nat.le_of_ble_eq_true rfl)⟩, (Nat.le_of_ble_eq_true rfl)⟩ rfl zw_849 zw_850 zw_851 zw_9 zw_852 dX1_lowestInFlight_46 (fun x_26 M_26 f26 hP _ x26 => ?_)
          have ha := x26.k (k := 1) hT26 ha
          have f_x1 := x26.t (k := 7) hT26 f_x1
          have k20 := x26.k (k := 6) hT26 k20
          refine z_astore_n (lv' := [(2, z_O _), (0, z_O _), (1, z_O _)]) dX1_lowestInFlight_49 rfl (Nat.le_of_ble_eq_true rfl) rfl ?_
          refine z_pc (pc' := 50) rfl ?_
          refine z_goto (tgt := 9) dX1_lowestInFlight_50 (by decide) ?_
          refine z_sub (lv' := [(0, z_O _), (1, z_O _), (2, z_O _)]) [1, 2, 0] rfl ?_
          exact ih ha f_x1 f26 hP
set_option maxRecDepth 100000 in
set_option maxHeartbeats 4000000 in
theorem s_X1_lowestInFlight {G : z_G} {M : z_Mem} {a : Nat} {p1 : Option Nat} {Post : Option Nat → z_Mem → Prop} (ha : z_ki M a = 2) (f_p1 : z_tr M p1 8) (hP : P_X1_lowestInFlight a p1 M Post) : z_Mt G Y_X1_lowestInFlight M [z_O (some a), z_O p1] (z_PO 7 Post) := by
  refine z_ofV (by decide) (Nat.le_of_ble_eq_true rfl) ?_
  unfold P_X1_lowestInFlight at hP
  refine z_sub (lv' := [(0, z_O (some a)), (1, z_O p1)]) [0, 1] rfl ?_
  refine z_aload_n dX1_lowestInFlight_0 rfl 0 rfl ?_
  refine z_aload_n dX1_lowestInFlight_1 rfl 0 rfl ?_
  refine z_geti (c := 1) (k := 6) (g := 134) z_cb1 (Nat.le_of_ble_eq_true rfl) (Nat.le_of_ble_eq_true rfl) rfl (Nat.le_of_ble_eq_true rfl) zw_432 rfl ha dX1_lowestInFlight_2 ?_
  refine z_wts (fun hT28 _ => ?_)
  refine z_cVo (c := 1) (n := 1) (Y1 := Y_X1_packetAt) (st := []) rfl ha z_cb1 (Nat.le_of_ble_eq_true rfl) rfl (s_X1_packetAt ha hP) rfl ⟨z_dc_X1_packetAt, ⟨(Nat.le_of_ble_eq_true rfl), (Nat.le_of_ble_eq_true rfl)⟩, (Nat.le_of_ble_eq_true rfl)⟩ rfl zw_849 zw_850 zw_851 zw_9 zw_852 dX1_lowestInFlight_5 (fun x_28 M_28 f28 hP _ x28 => ?_)
  have ha := x28.k (k := 1) hT28 ha
  have f_p1 := x28.t (k := 7) hT28 f_p1
  refine z_astore_n (lv' := [(2, z_O _), (0, z_O _), (1, z_O _)]) dX1_lowestInFlight_8 rfl (Nat.le_of_ble_eq_true rfl) rfl ?_
  obtain ⟨n29, hP⟩ := hP
  refine z_sub (lv' := [(0, z_O _), (1, z_O _), (2, z_O _)]) [1, 2, 0] rfl ?_
  exact v_X1_lowestInFlight_9  n29 ha f_p1 f28 hP
set_option maxRecDepth 100000 in
def P_X7_isLostByOrder (a : Nat) (p1 : Option Nat) (M : z_Mem) (Post : Int32 → z_Mem → Prop) : Prop := z_nn p1 fun a1 => ((((z_fi M 906 a) < ((z_fi M 780 a1) + 3) → Post 0 M) ∧ (¬ (z_fi M 906 a) < ((z_fi M 780 a1) + 3) → Post 1 M)))
set_option maxRecDepth 100000 in
set_option maxHeartbeats 4000000 in
theorem s_X7_isLostByOrder {G : z_G} {M : z_Mem} {a : Nat} {p1 : Option Nat} {Post : Int32 → z_Mem → Prop} (ha : z_ki M a = 8) (f_p1 : z_tr M p1 7) (hP : P_X7_isLostByOrder a p1 M Post) : z_Mt G Y_X7_isLostByOrder M [z_O (some a), z_O p1] (z_PB Post) := by
  refine z_ofV (by decide) (Nat.le_of_ble_eq_true rfl) ?_
  unfold P_X7_isLostByOrder at hP
  refine z_sub (lv' := [(0, z_O (some a)), (1, z_O p1)]) [0, 1] rfl ?_
  refine z_aload_n dX7_isLostByOrder_0 rfl 1 rfl ?_
  obtain ⟨a1, e1, hP⟩ := hP
  have k1 := f_p1 a1 e1
  refine z_geti (c := 6) (k := 12) (g := 780) z_cb6 (Nat.le_of_ble_eq_true rfl) (Nat.le_of_ble_eq_true rfl) rfl (Nat.le_of_ble_eq_true rfl) zw_1097 e1 k1 dX7_isLostByOrder_1 ?_
  refine z_iconst (v := 3) dX7_isLostByOrder_4 (by decide) ?_
  refine z_iadd dX7_isLostByOrder_5 ?_
  refine z_aload_n dX7_isLostByOrder_6 rfl 0 rfl ?_
  refine z_geti (c := 7) (k := 10) (g := 906) z_cb7 (Nat.le_of_ble_eq_true rfl) (Nat.le_of_ble_eq_true rfl) rfl (Nat.le_of_ble_eq_true rfl) zw_371 rfl ha dX7_isLostByOrder_7 ?_
  refine z_pc (pc' := 10) rfl ?_
  refine z_icmp_gt (tgt := 17) dX7_isLostByOrder_10 (by decide) (fun h4 => ?_) (fun h4 => ?_)
  · replace hP := hP.1 h4
    refine z_iconst (v := 0) dX7_isLostByOrder_17 (by decide) ?_
    exact z_retb rfl (Or.inl rfl) dX7_isLostByOrder_18 hP
  · replace hP := hP.2 h4
    refine z_iconst (v := 1) dX7_isLostByOrder_13 (by decide) ?_
    refine z_goto (tgt := 18) dX7_isLostByOrder_14 (by decide) ?_
    exact z_retb rfl (Or.inr rfl) dX7_isLostByOrder_18 hP
set_option maxRecDepth 100000 in
def P_X7_isLostByTime (a : Nat) (p1 : Option Nat) (p2 : Int32) (M : z_Mem) (Post : Int32 → z_Mem → Prop) : Prop := ∀ x_3 : Int32, x_3 = ((if 1 < ((9 * ((if ((z_fi M 900 a) / 8) < (z_fi M 903 a) then (z_fi M 903 a) else ((z_fi M 900 a) / 8)) : Int32)) / 8) then ((9 * ((if ((z_fi M 900 a) / 8) < (z_fi M 903 a) then (z_fi M 903 a) else ((z_fi M 900 a) / 8)) : Int32)) / 8) else 1) : Int32) → (z_nn p1 fun a4 => ((((z_fi M 906 a) ≤ (z_fi M 780 a4) → Post 0 M) ∧ (¬ (z_fi M 906 a) ≤ (z_fi M 780 a4) → (((p2 - (z_fi M 770 a4)) < x_3 → Post 0 M) ∧ (¬ (p2 - (z_fi M 770 a4)) < x_3 → Post 1 M))))))
set_option maxRecDepth 100000 in
set_option maxHeartbeats 4000000 in
theorem s_X7_isLostByTime {G : z_G} {M : z_Mem} {a : Nat} {p1 : Option Nat} {p2 : Int32} {Post : Int32 → z_Mem → Prop} (ha : z_ki M a = 8) (f_p1 : z_tr M p1 7) (hP : P_X7_isLostByTime a p1 p2 M Post) : z_Mt G Y_X7_isLostByTime M [z_O (some a), z_O p1, z_I p2] (z_PB Post) := by
  refine z_ofV (by decide) (Nat.le_of_ble_eq_true rfl) ?_
  unfold P_X7_isLostByTime at hP
  refine z_sub (lv' := [(0, z_O (some a)), (1, z_O p1), (2, z_I p2)]) [0, 1, 2] rfl ?_
  refine z_iconst (v := 1) dX7_isLostByTime_0 (by decide) ?_
  refine z_bipush (v := 9) dX7_isLostByTime_1 (by decide) ?_
  refine z_aload_n dX7_isLostByTime_3 rfl 0 rfl ?_
  refine z_geti (c := 7) (k := 4) (g := 900) z_cb7 (Nat.le_of_ble_eq_true rfl) (Nat.le_of_ble_eq_true rfl) rfl (Nat.le_of_ble_eq_true rfl) zw_360 rfl ha dX7_isLostByTime_4 ?_
  refine z_bipush (v := 8) dX7_isLostByTime_7 (by decide) ?_
  refine z_idiv dX7_isLostByTime_9 (by decide) ?_
  refine z_pc (pc' := 10) rfl ?_
  refine z_aload_n dX7_isLostByTime_10 rfl 0 rfl ?_
  refine z_geti (c := 7) (k := 7) (g := 903) z_cb7 (Nat.le_of_ble_eq_true rfl) (Nat.le_of_ble_eq_true rfl) rfl (Nat.le_of_ble_eq_true rfl) zw_367 rfl ha dX7_isLostByTime_11 ?_
  refine z_mmax zw_1031 zw_102 zw_5 zw_103 dX7_isLostByTime_14 (Nat.le_of_ble_eq_true rfl) (Nat.le_of_ble_eq_true rfl) ?_
  refine z_imul dX7_isLostByTime_17 ?_
  refine z_bipush (v := 8) dX7_isLostByTime_18 (by decide) ?_
  refine z_idiv dX7_isLostByTime_20 (by decide) ?_
  refine z_pc (pc' := 21) rfl ?_
  refine z_mmax zw_1031 zw_102 zw_5 zw_103 dX7_isLostByTime_21 (Nat.le_of_ble_eq_true rfl) (Nat.le_of_ble_eq_true rfl) ?_
  refine z_topi (fun x_3 y_3 => ?_)
  replace hP := hP x_3 y_3
  refine z_istore_n (lv' := [(3, z_I _), (0, z_O _), (1, z_O _), (2, z_I _)]) dX7_isLostByTime_24 rfl (Nat.le_of_ble_eq_true rfl) rfl ?_
  refine z_aload_n dX7_isLostByTime_25 rfl 2 rfl ?_
  obtain ⟨a4, e4, hP⟩ := hP
  have k4 := f_p1 a4 e4
  refine z_geti (c := 6) (k := 12) (g := 780) z_cb6 (Nat.le_of_ble_eq_true rfl) (Nat.le_of_ble_eq_true rfl) rfl (Nat.le_of_ble_eq_true rfl) zw_1097 e4 k4 dX7_isLostByTime_26 ?_
  refine z_aload_n dX7_isLostByTime_29 rfl 1 rfl ?_
  refine z_geti (c := 7) (k := 10) (g := 906) z_cb7 (Nat.le_of_ble_eq_true rfl) (Nat.le_of_ble_eq_true rfl) rfl (Nat.le_of_ble_eq_true rfl) zw_371 rfl ha dX7_isLostByTime_30 ?_
  refine z_pc (pc' := 33) rfl ?_
  refine z_icmp_ge (tgt := 50) dX7_isLostByTime_33 (by decide) (fun h7 => ?_) (fun h7 => ?_)
  · replace hP := hP.1 h7
    refine z_iconst (v := 0) dX7_isLostByTime_50 (by decide) ?_
    exact z_retb rfl (Or.inl rfl) dX7_isLostByTime_51 hP
  · replace hP := hP.2 h7
    refine z_iload_n dX7_isLostByTime_36 rfl 3 rfl ?_
    refine z_aload_n dX7_isLostByTime_37 rfl 2 rfl ?_
    refine z_geti (c := 6) (k := 2) (g := 770) z_cb6 (Nat.le_of_ble_eq_true rfl) (Nat.le_of_ble_eq_true rfl) rfl (Nat.le_of_ble_eq_true rfl) zw_1064 e4 k4 dX7_isLostByTime_38 ?_
    refine z_isub dX7_isLostByTime_41 ?_
    refine z_iload_n dX7_isLostByTime_42 rfl 0 rfl ?_
    refine z_icmp_lt (tgt := 50) dX7_isLostByTime_43 (by decide) (fun h9 => ?_) (fun h9 => ?_)
    · replace hP := hP.1 h9
      refine z_iconst (v := 0) dX7_isLostByTime_50 (by decide) ?_
      refine z_pc (pc' := 51) rfl ?_
      exact z_retb rfl (Or.inl rfl) dX7_isLostByTime_51 hP
    · replace hP := hP.2 h9
      refine z_iconst (v := 1) dX7_isLostByTime_46 (by decide) ?_
      refine z_pc (pc' := 47) rfl ?_
      refine z_goto (tgt := 51) dX7_isLostByTime_47 (by decide) ?_
      exact z_retb rfl (Or.inr rfl) dX7_isLostByTime_51 hP
def P_X1_findLosses_63 (a : Nat) (Post : z_Mem → Prop) (J12 : Option Nat → Int32 → Option Nat → Int32 → z_Mem → Prop) (x1 : Option Nat) (x2 : Int32) (x3 : Option Nat) (x4 : Int32) (M : z_Mem) : Prop := P_X1_leaveFlight a x3 2 M fun M_1 => (z_nn x1 fun a2 => (∀ M_4 : z_Mem, M_4 = z_sfi M_1 911 a2 ((z_fi M_1 911 a2) + 1) → (z_nn x3 fun a6 => (z_nn (z_fr M_4 128 a) fun a11 => (z_nn (z_fr M_4 897 a2) fun a14 => (P_X2_harm a14 (z_fi M_4 768 a6) (z_fi M_4 768 a6) (z_fi M_4 133 a) (z_fi M_4 645 a11) M_4 fun M_13 => (P_X1_lowestInFlight a x1 M_13 fun x_15 M_15 => (∀ x_16 : Int32, x_16 = x4 + (-1) → (J12 x1 x2 x_15 x_16 M_15)))))))))
def P_X1_findLosses_38 (a : Nat) (Post : z_Mem → Prop) (J12 : Option Nat → Int32 → Option Nat → Int32 → z_Mem → Prop) (x1 : Option Nat) (x2 : Int32) (x3 : Option Nat) (x4 : Int32) (t0 : Int32) (M : z_Mem) : Prop := ((t0 = 0 → z_nn (z_fr M 128 a) fun a19 => (z_nn x1 fun a22 => (P_X7_isLostByTime a22 x3 (z_fi M 645 a19) M fun x_21 M_21 => (((x_21 = 0 → Post M_21) ∧ (¬ x_21 = 0 → P_X1_findLosses_63 a Post J12 x1 x2 x3 x4 M_21)))))) ∧ (¬ t0 = 0 → P_X1_findLosses_63 a Post J12 x1 x2 x3 x4 M))
def P_X1_findLosses_37 (a : Nat) (Post : z_Mem → Prop) (J12 : Option Nat → Int32 → Option Nat → Int32 → z_Mem → Prop) (x1 : Option Nat) (x2 : Int32) (x3 : Option Nat) (x4 : Int32) (M : z_Mem) : Prop := P_X1_findLosses_38 a Post J12 x1 x2 x3 x4 0 M
set_option maxRecDepth 100000 in
def P_X1_findLosses_12 (a : Nat) (Post : z_Mem → Prop)  : Nat → Option Nat → Int32 → Option Nat → Int32 → z_Mem → Prop
  | 0, _, _, _, _, _ => False
  | n + 1, x1, x2, x3, x4, M => ((x4 ≤ 0 → Post M) ∧ (¬ x4 ≤ 0 → ((x3 = none → Post M) ∧ (∀ a25 : Nat, x3 = some a25 → ((x2 = 0 → P_X1_findLosses_37 a Post (fun q0 q1 q2 q3 qM => P_X1_findLosses_12 a Post n q0 q1 q2 q3 qM) x1 x2 x3 x4 M) ∧ (¬ x2 = 0 → z_nn x1 fun a28 => (P_X7_isLostByOrder a28 x3 M fun x_27 M_27 => (((x_27 = 0 → P_X1_findLosses_37 a Post (fun q0 q1 q2 q3 qM => P_X1_findLosses_12 a Post n q0 q1 q2 q3 qM) x1 x2 x3 x4 M_27) ∧ (¬ x_27 = 0 → P_X1_findLosses_38 a Post (fun q0 q1 q2 q3 qM => P_X1_findLosses_12 a Post n q0 q1 q2 q3 qM) x1 x2 x3 x4 1 M_27))))))))))
set_option maxRecDepth 100000 in
def P_X1_findLosses (a : Nat) (p1 : Option Nat) (p2 : Int32) (M : z_Mem) (Post : z_Mem → Prop) : Prop := P_X1_lowestInFlight a p1 M fun x_30 M_30 => (z_nn p1 fun a31 => (∀ x_33 : Int32, x_33 = (z_fi M_30 899 a31) → ((∃ n34 : Nat, P_X1_findLosses_12 a Post n34 p1 p2 x_30 x_33 M_30))))
set_option maxRecDepth 100000 in
set_option maxHeartbeats 4000000 in
theorem v_X1_findLosses_63 {G : z_G} {M0 : z_Mem} {a : Nat} {Post : z_Mem → Prop} {J12 : Option Nat → Int32 → Option Nat → Int32 → z_Mem → Prop} (hJ12 : ∀ (x1 : Option Nat) (x2 : Int32) (x3 : Option Nat) (x4 : Int32) (M : z_Mem), (z_ki M a = 2) → (z_tr M x1 8) → (x2 = 0 ∨ x2 = 1) → (z_tr M x3 7) → J12 x1 x2 x3 x4 M → z_V G Y_X1_findLosses z_X0 M0 (z_QM G M0 (z_PV Post)) M 12 [(0, z_O (some a)), (1, z_O x1), (2, z_I x2), (3, z_O x3), (4, z_I x4)] []) {x1 : Option Nat} {x2 : Int32} {x3 : Option Nat} {x4 : Int32} {M : z_Mem} (ha : z_ki M a = 2) (f_x1 : z_tr M x1 8) (f_x2 : x2 = 0 ∨ x2 = 1) (f_x3 : z_tr M x3 7) (hP : P_X1_findLosses_63 a Post J12 x1 x2 x3 x4 M) : z_V G Y_X1_findLosses z_X0 M0 (z_QM G M0 (z_PV Post)) M 63 [(0, z_O (some a)), (1, z_O x1), (2, z_I x2), (3, z_O x3), (4, z_I x4)] [] := by
  unfold P_X1_findLosses_63 at hP
  refine z_aload_n dX1_findLosses_63 rfl 0 rfl ?_
  refine z_aload_n dX1_findLosses_64 rfl 3 rfl ?_
  refine z_iconst (v := 2) dX1_findLosses_65 (by decide) ?_
  refine z_wts (fun hT1 _ => ?_)
  refine z_cVv (c := 1) (n := 2) (Y1 := Y_X1_leaveFlight) (st := []) rfl ha z_cb1 (Nat.le_of_ble_eq_true rfl) rfl (s_X1_leaveFlight ha f_x3 hP) rfl ⟨z_dc_X1_leaveFlight, ⟨(Nat.le_of_ble_eq_true rfl), (Nat.le_of_ble_eq_true rfl)⟩, (Nat.le_of_ble_eq_true rfl)⟩ rfl zw_942 zw_944 zp_13 zw_9 zw_945 dX1_findLosses_66 (fun M_1 hP _ x1 => ?_)
  have ha := x1.k (k := 1) hT1 ha
  have f_x1 := x1.t (k := 7) hT1 f_x1
  have f_x3 := x1.t (k := 6) hT1 f_x3
  refine z_aload_n dX1_findLosses_69 rfl 1 rfl ?_
  refine z_dup dX1_findLosses_70 rfl ?_
  refine z_pc (pc' := 71) rfl ?_
  obtain ⟨a2, e2, hP⟩ := hP
  have k2 := f_x1 a2 e2
  refine z_geti (c := 7) (k := 15) (g := 911) z_cb7 (Nat.le_of_ble_eq_true rfl) (Nat.le_of_ble_eq_true rfl) rfl (Nat.le_of_ble_eq_true rfl) zw_380 e2 k2 dX1_findLosses_71 ?_
  refine z_iconst (v := 1) dX1_findLosses_74 (by decide) ?_
  refine z_iadd dX1_findLosses_75 ?_
  refine z_puti (c := 7) (k := 15) (g := 911) z_cb7 (Nat.le_of_ble_eq_true rfl) (Nat.le_of_ble_eq_true rfl) (Nat.le_of_ble_eq_true rfl) rfl rfl rfl zw_380 e2 k2 (Or.inl rfl) dX1_findLosses_76 ?_
  refine z_nm (fun M_4 g_4 => ?_)
  replace hP := hP M_4 g_4
  have q_4 := z_k1 g_4
  have ha := z_kk q_4 ha
  have k2 := z_kk q_4 k2
  have f_x3 := z_trk q_4 f_x3
  refine z_aload_n dX1_findLosses_79 rfl 1 rfl ?_
  refine z_getr (c := 7) (k := 1) (g := 897) (t := 3) z_cb7 (Nat.le_of_ble_eq_true rfl) (Nat.le_of_ble_eq_true rfl) rfl rfl zw_353 e2 k2 dX1_findLosses_80 (fun f5 => ?_)
  refine z_pc (pc' := 83) rfl ?_
  refine z_aload_n dX1_findLosses_83 rfl 3 rfl ?_
  obtain ⟨a6, e6, hP⟩ := hP
  have k6 := f_x3 a6 e6
  refine z_geti (c := 6) (k := 0) (g := 768) z_cb6 (Nat.le_of_ble_eq_true rfl) (Nat.le_of_ble_eq_true rfl) rfl (Nat.le_of_ble_eq_true rfl) zw_1059 e6 k6 dX1_findLosses_84 ?_
  refine z_aload_n dX1_findLosses_87 rfl 3 rfl ?_
  refine z_geti (c := 6) (k := 0) (g := 768) z_cb6 (Nat.le_of_ble_eq_true rfl) (Nat.le_of_ble_eq_true rfl) rfl (Nat.le_of_ble_eq_true rfl) zw_1059 e6 k6 dX1_findLosses_88 ?_
  refine z_aload_n dX1_findLosses_91 rfl 0 rfl ?_
  refine z_geti (c := 1) (k := 5) (g := 133) z_cb1 (Nat.le_of_ble_eq_true rfl) (Nat.le_of_ble_eq_true rfl) rfl (Nat.le_of_ble_eq_true rfl) zw_430 rfl ha dX1_findLosses_92 ?_
  refine z_pc (pc' := 95) rfl ?_
  refine z_aload_n dX1_findLosses_95 rfl 0 rfl ?_
  refine z_getr (c := 1) (k := 0) (g := 128) (t := 6) z_cb1 (Nat.le_of_ble_eq_true rfl) (Nat.le_of_ble_eq_true rfl) rfl rfl zw_425 rfl ha dX1_findLosses_96 (fun f10 => ?_)
  obtain ⟨a11, e11, hP⟩ := hP
  have k11 := f10 a11 e11
  refine z_geti (c := 5) (k := 5) (g := 645) z_cb5 (Nat.le_of_ble_eq_true rfl) (Nat.le_of_ble_eq_true rfl) rfl (Nat.le_of_ble_eq_true rfl) zw_166 e11 k11 dX1_findLosses_99 ?_
  obtain ⟨a14, e14, hP⟩ := hP
  have k14 := f5 a14 e14
  refine z_wts (fun hT13 _ => ?_)
  refine z_cVv (c := 2) (n := 4) (Y1 := Y_X2_harm) (st := []) e14 k14 z_cb2 (Nat.le_of_ble_eq_true rfl) rfl (s_X2_harm k14 hP) rfl ⟨z_dc_X2_harm, ⟨(Nat.le_of_ble_eq_true rfl), (Nat.le_of_ble_eq_true rfl)⟩, (Nat.le_of_ble_eq_true rfl)⟩ rfl zw_1007 zw_1008 zw_1009 zw_11 zw_1010 dX1_findLosses_102 (fun M_13 hP _ x13 => ?_)
  have ha := x13.k (k := 1) hT13 ha
  have k2 := x13.k (k := 7) hT13 k2
  have k6 := x13.k (k := 6) hT13 k6
  refine z_aload_n dX1_findLosses_105 rfl 0 rfl ?_
  refine z_aload_n dX1_findLosses_106 rfl 1 rfl ?_
  refine z_pc (pc' := 107) rfl ?_
  refine z_wts (fun hT15 _ => ?_)
  refine z_cVo (c := 1) (n := 1) (Y1 := Y_X1_lowestInFlight) (st := []) rfl ha z_cb1 (Nat.le_of_ble_eq_true rfl) rfl (s_X1_lowestInFlight ha (z_trn e2 k2) hP) rfl ⟨z_dc_X1_lowestInFlight, ⟨(Nat.le_of_ble_eq_true rfl), (Nat.le_of_ble_eq_true rfl)⟩, (Nat.le_of_ble_eq_true rfl)⟩ rfl zw_1019 zw_1021 zp_22 zw_9 zw_1022 dX1_findLosses_107 (fun x_15 M_15 f15 hP _ x15 => ?_)
  have ha := x15.k (k := 1) hT15 ha
  have k2 := x15.k (k := 7) hT15 k2
  have k6 := x15.k (k := 6) hT15 k6
  refine z_astore_n (lv' := [(3, z_O _), (0, z_O _), (1, z_O _), (2, z_I _), (4, z_I _)]) dX1_findLosses_110 rfl (Nat.le_of_ble_eq_true rfl) rfl ?_
  refine z_iincN (j := 4) (m := (-1)) (lv' := fun v => [(4, z_I v), (3, z_O _), (0, z_O _), (1, z_O _), (2, z_I _)]) dX1_findLosses_111 rfl (by decide) (Nat.le_of_ble_eq_true rfl) (fun _ => rfl) (fun x_16 y_16 => ?_)
  replace hP := hP x_16 y_16
  refine z_goto (tgt := 12) dX1_findLosses_114 (by decide) ?_
  refine z_sub (lv' := [(0, z_O _), (1, z_O _), (2, z_I _), (3, z_O _), (4, z_I _)]) [2, 3, 4, 1, 0] rfl ?_
  exact hJ12 _ _ _ _ _ ha (z_trn e2 k2) f_x2 f15 hP
set_option maxRecDepth 100000 in
set_option maxHeartbeats 4000000 in
theorem v_X1_findLosses_38 {G : z_G} {M0 : z_Mem} {a : Nat} {Post : z_Mem → Prop} {J12 : Option Nat → Int32 → Option Nat → Int32 → z_Mem → Prop} (hJ12 : ∀ (x1 : Option Nat) (x2 : Int32) (x3 : Option Nat) (x4 : Int32) (M : z_Mem), (z_ki M a = 2) → (z_tr M x1 8) → (x2 = 0 ∨ x2 = 1) → (z_tr M x3 7) → J12 x1 x2 x3 x4 M → z_V G Y_X1_findLosses z_X0 M0 (z_QM G M0 (z_PV Post)) M 12 [(0, z_O (some a)), (1, z_O x1), (2, z_I x2), (3, z_O x3), (4, z_I x4)] []) {x1 : Option Nat} {x2 : Int32} {x3 : Option Nat} {x4 : Int32} {t0 : Int32} {M : z_Mem} (ha : z_ki M a = 2) (f_x1 : z_tr M x1 8) (f_x2 : x2 = 0 ∨ x2 = 1) (f_x3 : z_tr M x3 7) (f_t0 : t0 = 0 ∨ t0 = 1) (hP : P_X1_findLosses_38 a Post J12 x1 x2 x3 x4 t0 M) : z_V G Y_X1_findLosses z_X0 M0 (z_QM G M0 (z_PV Post)) M 38 [(0, z_O (some a)), (1, z_O x1), (2, z_I x2), (3, z_O x3), (4, z_I x4)] [z_I t0] := by
  unfold P_X1_findLosses_38 at hP
  refine z_istore (lv' := [(5, z_I _), (0, z_O _), (1, z_O _), (2, z_I _), (3, z_O _), (4, z_I _)]) dX1_findLosses_38 (Nat.le_of_ble_eq_true rfl) rfl ?_
  refine z_iload dX1_findLosses_40 0 rfl ?_
  refine z_if_ne (tgt := 63) dX1_findLosses_42 (by decide) (fun h17 => ?_) (fun h17 => ?_)
  · replace hP := hP.2 h17
    refine z_sub (lv' := [(0, z_O _), (1, z_O _), (2, z_I _), (3, z_O _), (4, z_I _)]) [1, 2, 3, 4, 5] rfl ?_
    exact v_X1_findLosses_63 hJ12 ha f_x1 f_x2 f_x3 hP
  · replace hP := hP.1 h17
    refine z_aload_n dX1_findLosses_45 rfl 2 rfl ?_
    refine z_aload_n dX1_findLosses_46 rfl 4 rfl ?_
    refine z_aload_n dX1_findLosses_47 rfl 1 rfl ?_
    refine z_getr (c := 1) (k := 0) (g := 128) (t := 6) z_cb1 (Nat.le_of_ble_eq_true rfl) (Nat.le_of_ble_eq_true rfl) rfl rfl zw_425 rfl ha dX1_findLosses_48 (fun f18 => ?_)
    refine z_pc (pc' := 51) rfl ?_
    obtain ⟨a19, e19, hP⟩ := hP
    have k19 := f18 a19 e19
    refine z_geti (c := 5) (k := 5) (g := 645) z_cb5 (Nat.le_of_ble_eq_true rfl) (Nat.le_of_ble_eq_true rfl) rfl (Nat.le_of_ble_eq_true rfl) zw_166 e19 k19 dX1_findLosses_51 ?_
    obtain ⟨a22, e22, hP⟩ := hP
    have k22 := f_x1 a22 e22
    refine z_wts (fun hT21 _ => ?_)
    refine z_cVb (c := 7) (n := 2) (Y1 := Y_X7_isLostByTime) (st := []) e22 k22 z_cb7 (Nat.le_of_ble_eq_true rfl) rfl (s_X7_isLostByTime k22 f_x3 hP) rfl ⟨z_dc_X7_isLostByTime, ⟨(Nat.le_of_ble_eq_true rfl), (Nat.le_of_ble_eq_true rfl)⟩, (Nat.le_of_ble_eq_true rfl)⟩ rfl zw_1027 zw_1028 zw_1029 zw_10 zw_1030 dX1_findLosses_54 (fun x_21 M_21 b21 hP _ x21 => ?_)
    have ha := x21.k (k := 1) hT21 ha
    have k22 := x21.k (k := 7) hT21 k22
    have f_x3 := x21.t (k := 6) hT21 f_x3
    refine z_if_ne (tgt := 63) dX1_findLosses_57 (by decide) (fun h23 => ?_) (fun h23 => ?_)
    · replace hP := hP.2 h23
      refine z_sub (lv' := [(0, z_O _), (1, z_O _), (2, z_I _), (3, z_O _), (4, z_I _)]) [1, 2, 3, 4, 5] rfl ?_
      exact v_X1_findLosses_63 hJ12 ha (z_trn e22 k22) f_x2 f_x3 hP
    · replace hP := hP.1 h23
      refine z_goto (tgt := 117) dX1_findLosses_60 (by decide) ?_
      exact z_retv rfl dX1_findLosses_117 hP
set_option maxRecDepth 100000 in
set_option maxHeartbeats 4000000 in
theorem v_X1_findLosses_37 {G : z_G} {M0 : z_Mem} {a : Nat} {Post : z_Mem → Prop} {J12 : Option Nat → Int32 → Option Nat → Int32 → z_Mem → Prop} (hJ12 : ∀ (x1 : Option Nat) (x2 : Int32) (x3 : Option Nat) (x4 : Int32) (M : z_Mem), (z_ki M a = 2) → (z_tr M x1 8) → (x2 = 0 ∨ x2 = 1) → (z_tr M x3 7) → J12 x1 x2 x3 x4 M → z_V G Y_X1_findLosses z_X0 M0 (z_QM G M0 (z_PV Post)) M 12 [(0, z_O (some a)), (1, z_O x1), (2, z_I x2), (3, z_O x3), (4, z_I x4)] []) {x1 : Option Nat} {x2 : Int32} {x3 : Option Nat} {x4 : Int32} {M : z_Mem} (ha : z_ki M a = 2) (f_x1 : z_tr M x1 8) (f_x2 : x2 = 0 ∨ x2 = 1) (f_x3 : z_tr M x3 7) (hP : P_X1_findLosses_37 a Post J12 x1 x2 x3 x4 M) : z_V G Y_X1_findLosses z_X0 M0 (z_QM G M0 (z_PV Post)) M 37 [(0, z_O (some a)), (1, z_O x1), (2, z_I x2), (3, z_O x3), (4, z_I x4)] [] := by
  unfold P_X1_findLosses_37 at hP
  refine z_iconst (v := 0) dX1_findLosses_37 (by decide) ?_
  refine z_sub (lv' := [(0, z_O _), (1, z_O _), (2, z_I _), (3, z_O _), (4, z_I _)]) [0, 1, 2, 3, 4] rfl ?_
  exact v_X1_findLosses_38 hJ12 ha f_x1 f_x2 f_x3 (Or.inl rfl) hP
set_option maxRecDepth 100000 in
set_option maxHeartbeats 4000000 in
theorem v_X1_findLosses_12 {G : z_G} {M0 : z_Mem} {a : Nat} {Post : z_Mem → Prop}   : ∀ (n : Nat) {x1 : Option Nat} {x2 : Int32} {x3 : Option Nat} {x4 : Int32} {M : z_Mem}, (z_ki M a = 2) → (z_tr M x1 8) → (x2 = 0 ∨ x2 = 1) → (z_tr M x3 7) → P_X1_findLosses_12 a Post n x1 x2 x3 x4 M → z_V G Y_X1_findLosses z_X0 M0 (z_QM G M0 (z_PV Post)) M 12 [(0, z_O (some a)), (1, z_O x1), (2, z_I x2), (3, z_O x3), (4, z_I x4)] [] := by
  intro n
  induction n with
  | zero => intro x1 x2 x3 x4 M ha f_x1 f_x2 f_x3 hP; exact False.elim hP
  | succ n ih =>
    intro x1 x2 x3 x4 M ha f_x1 f_x2 f_x3 hP
    unfold P_X1_findLosses_12 at hP
    refine z_iload dX1_findLosses_12 4 rfl ?_
    refine z_if_le (tgt := 117) dX1_findLosses_14 (by decide) (fun h24 => ?_) (fun h24 => ?_)
    · replace hP := hP.1 h24
      exact z_retv rfl dX1_findLosses_117 hP
    · replace hP := hP.2 h24
      refine z_aload_n dX1_findLosses_17 rfl 3 rfl ?_
      refine z_ifnull (tgt := 117) dX1_findLosses_18 (by decide) (fun h25 => ?_) (fun a25 e25 => ?_)
      · replace hP := hP.1 h25
        exact z_retv rfl dX1_findLosses_117 hP
      · replace hP := hP.2 a25 e25
        have k25 := f_x3 a25 e25
        refine z_iload_n dX1_findLosses_21 rfl 2 rfl ?_
        refine z_if_eq (tgt := 37) dX1_findLosses_22 (by decide) (fun h26 => ?_) (fun h26 => ?_)
        · replace hP := hP.1 h26
          refine z_sub (lv' := [(0, z_O _), (1, z_O _), (2, z_I _), (3, z_O _), (4, z_I _)]) [0, 1, 2, 3, 4] rfl ?_
          exact v_X1_findLosses_37 (fun _ _ _ _ _ w0 w1 w2 w3 hP => ih w0 w1 w2 w3 hP) ha f_x1 f_x2 (z_trn e25 k25) hP
        · replace hP := hP.2 h26
          refine z_aload_n dX1_findLosses_25 rfl 1 rfl ?_
          refine z_aload_n dX1_findLosses_26 rfl 3 rfl ?_
          obtain ⟨a28, e28, hP⟩ := hP
          have k28 := f_x1 a28 e28
          refine z_wts (fun hT27 _ => ?_)
          refine z_cVb (c := 7) (n := 1) (Y1 := Y_X7_isLostByOrder) (st := []) e28 k28 z_cb7 (Nat.le_of_ble_eq_true rfl) rfl (s_X7_isLostByOrder k28 (z_trn e25 k25) hP) rfl ⟨z_dc_X7_isLostByOrder, ⟨(Nat.le_of_ble_eq_true rfl), (Nat.le_of_ble_eq_true rfl)⟩, (Nat.le_of_ble_eq_true rfl)⟩ rfl zw_1023 zw_1024 zw_1025 zw_10 zw_1026 dX1_findLosses_27 (fun x_27 M_27 b27 hP _ x27 => ?_)
          have ha := x27.k (k := 1) hT27 ha
          have k28 := x27.k (k := 7) hT27 k28
          have k25 := x27.k (k := 6) hT27 k25
          refine z_pc (pc' := 30) rfl ?_
          refine z_if_eq (tgt := 37) dX1_findLosses_30 (by decide) (fun h29 => ?_) (fun h29 => ?_)
          · replace hP := hP.1 h29
            refine z_sub (lv' := [(0, z_O _), (1, z_O _), (2, z_I _), (3, z_O _), (4, z_I _)]) [0, 1, 2, 3, 4] rfl ?_
            exact v_X1_findLosses_37 (fun _ _ _ _ _ w0 w1 w2 w3 hP => ih w0 w1 w2 w3 hP) ha (z_trn e28 k28) f_x2 (z_trn e25 k25) hP
          · replace hP := hP.2 h29
            refine z_iconst (v := 1) dX1_findLosses_33 (by decide) ?_
            refine z_goto (tgt := 38) dX1_findLosses_34 (by decide) ?_
            refine z_sub (lv' := [(0, z_O _), (1, z_O _), (2, z_I _), (3, z_O _), (4, z_I _)]) [0, 1, 2, 3, 4] rfl ?_
            exact v_X1_findLosses_38 (fun _ _ _ _ _ w0 w1 w2 w3 hP => ih w0 w1 w2 w3 hP) ha (z_trn e28 k28) f_x2 (z_trn e25 k25) (Or.inr rfl) hP
set_option maxRecDepth 100000 in
set_option maxHeartbeats 4000000 in
theorem s_X1_findLosses {G : z_G} {M : z_Mem} {a : Nat} {p1 : Option Nat} {p2 : Int32} {Post : z_Mem → Prop} (ha : z_ki M a = 2) (f_p1 : z_tr M p1 8) (f_p2 : p2 = 0 ∨ p2 = 1) (hP : P_X1_findLosses a p1 p2 M Post) : z_Mt G Y_X1_findLosses M [z_O (some a), z_O p1, z_I p2] (z_PV Post) := by
  refine z_ofV (by decide) (Nat.le_of_ble_eq_true rfl) ?_
  unfold P_X1_findLosses at hP
  refine z_sub (lv' := [(0, z_O (some a)), (1, z_O p1), (2, z_I p2)]) [0, 1, 2] rfl ?_
  refine z_aload_n dX1_findLosses_0 rfl 0 rfl ?_
  refine z_aload_n dX1_findLosses_1 rfl 1 rfl ?_
  refine z_wts (fun hT30 _ => ?_)
  refine z_cVo (c := 1) (n := 1) (Y1 := Y_X1_lowestInFlight) (st := []) rfl ha z_cb1 (Nat.le_of_ble_eq_true rfl) rfl (s_X1_lowestInFlight ha f_p1 hP) rfl ⟨z_dc_X1_lowestInFlight, ⟨(Nat.le_of_ble_eq_true rfl), (Nat.le_of_ble_eq_true rfl)⟩, (Nat.le_of_ble_eq_true rfl)⟩ rfl zw_1019 zw_1021 zp_22 zw_9 zw_1022 dX1_findLosses_2 (fun x_30 M_30 f30 hP _ x30 => ?_)
  have ha := x30.k (k := 1) hT30 ha
  have f_p1 := x30.t (k := 7) hT30 f_p1
  refine z_astore_n (lv' := [(3, z_O _), (0, z_O _), (1, z_O _), (2, z_I _)]) dX1_findLosses_5 rfl (Nat.le_of_ble_eq_true rfl) rfl ?_
  refine z_aload_n dX1_findLosses_6 rfl 2 rfl ?_
  obtain ⟨a31, e31, hP⟩ := hP
  have k31 := f_p1 a31 e31
  refine z_geti (c := 7) (k := 3) (g := 899) z_cb7 (Nat.le_of_ble_eq_true rfl) (Nat.le_of_ble_eq_true rfl) rfl (Nat.le_of_ble_eq_true rfl) zw_358 e31 k31 dX1_findLosses_7 ?_
  refine z_pc (pc' := 10) rfl ?_
  refine z_topi (fun x_33 y_33 => ?_)
  replace hP := hP x_33 y_33
  refine z_istore (lv' := [(4, z_I _), (3, z_O _), (0, z_O _), (1, z_O _), (2, z_I _)]) dX1_findLosses_10 (Nat.le_of_ble_eq_true rfl) rfl ?_
  obtain ⟨n34, hP⟩ := hP
  refine z_sub (lv' := [(0, z_O _), (1, z_O _), (2, z_I _), (3, z_O _), (4, z_I _)]) [2, 3, 4, 1, 0] rfl ?_
  exact v_X1_findLosses_12  n34 ha (z_trn e31 k31) f_p2 f30 hP
def P_X1_hearAck_89 (a : Nat) (Post : z_Mem → Prop) (J38 : Option Nat → Option Nat → Int32 → Int32 → z_Mem → Prop) (x1 : Option Nat) (x2 : Option Nat) (x3 : Int32) (x4 : Int32) (M : z_Mem) : Prop := ∀ x_1 : Int32, x_1 = x4 + (-1) → (J38 x1 x2 x3 x_1 M)
set_option maxRecDepth 100000 in
def P_X1_hearAck_52 (a : Nat) (Post : z_Mem → Prop) (J38 : Option Nat → Option Nat → Int32 → Int32 → z_Mem → Prop) : Nat → Option Nat → Option Nat → Int32 → Int32 → Int32 → z_Mem → Prop
  | 0, _, _, _, _, _, _ => False
  | n + 1, x1, x2, x3, x4, x5, M => z_nn x1 fun a2 => (z_nn (z_fr M 1 a2) fun a4 => (vp_in x4 (z_ln M a4) ∧ ((((z_ai M a4 ((x4 : Int32).toNatClampNeg)) < x5 → P_X1_hearAck_89 a Post J38 x1 x2 x3 x4 M) ∧ (¬ (z_ai M a4 ((x4 : Int32).toNatClampNeg)) < x5 → (((z_fi M 133 a) ≤ x5 → P_X1_hearAck_89 a Post J38 x1 x2 x3 x4 M) ∧ (¬ (z_fi M 133 a) ≤ x5 → P_X1_packetAt a x5 M fun x_9 M_9 => (P_X1_acknowledge a x_9 M_9 fun M_10 => (∀ x_11 : Int32, x_11 = x5 + 1 → (P_X1_hearAck_52 a Post J38 n x1 x2 x3 x4 x_11 M_10))))))))))
def P_X1_hearAck_109 (a : Nat) (Post : z_Mem → Prop)  (x1 : Option Nat) (M : z_Mem) : Prop := P_X1_takeCredits a x1 M fun M_12 => (z_nn (z_fr M_12 130 a) fun a14 => (∀ M_15 : z_Mem, M_15 = z_sfi M_12 910 a14 0 → (z_nn (z_fr M_15 131 a) fun a17 => (∀ M_18 : z_Mem, M_18 = z_sfi M_15 910 a17 0 → (P_X1_findLosses a (z_fr M_18 130 a) 1 M_18 fun M_20 => (P_X1_findLosses a (z_fr M_20 131 a) 1 M_20 fun M_22 => (Post M_22)))))))
set_option maxRecDepth 100000 in
def P_X1_hearAck_38 (a : Nat) (Post : z_Mem → Prop)  : Nat → Option Nat → Option Nat → Int32 → Int32 → z_Mem → Prop
  | 0, _, _, _, _, _ => False
  | n + 1, x1, x2, x3, x4, M => ((x4 < 0 → ((x2 = none → P_X1_hearAck_109 a Post x1 M) ∧ (∀ a24 : Nat, x2 = some a24 → z_nn x1 fun a25 => (P_X1_hearOfGreatest a x2 x3 (z_fi M 4 a25) M fun M_27 => (P_X1_hearAck_109 a Post x1 M_27))))) ∧ (¬ x4 < 0 → z_nn x1 fun a28 => (z_nn (z_fr M 0 a28) fun a30 => (vp_in x4 (z_ln M a30) ∧ (∀ x_32 : Int32, x_32 = (z_ai M a30 ((x4 : Int32).toNatClampNeg)) → ((∃ n33 : Nat, P_X1_hearAck_52 a Post (fun q0 q1 q2 q3 qM => P_X1_hearAck_38 a Post n q0 q1 q2 q3 qM) n33 x1 x2 x3 x4 x_32 M)))))))
def P_X1_hearAck_25 (a : Nat) (Post : z_Mem → Prop)  (x1 : Option Nat) (x2 : Option Nat) (t0 : Int32) (M : z_Mem) : Prop := z_nn x1 fun a34 => (∀ x_36 : Int32, x_36 = (((if 4 < (z_fi M 3 a34) then 4 else (z_fi M 3 a34)) : Int32) - 1) → ((∃ n37 : Nat, P_X1_hearAck_38 a Post n37 x1 x2 t0 x_36 M)))
def P_X1_hearAck_24 (a : Nat) (Post : z_Mem → Prop)  (x1 : Option Nat) (x2 : Option Nat) (M : z_Mem) : Prop := P_X1_hearAck_25 a Post x1 x2 0 M
set_option maxRecDepth 100000 in
def P_X1_hearAck (a : Nat) (p1 : Option Nat) (M : z_Mem) (Post : z_Mem → Prop) : Prop := z_nn p1 fun a39 => (P_X0_greatest a39 M fun x_38 M_38 => (P_X1_packetAt a x_38 M_38 fun x_40 M_40 => (((x_40 = none → P_X1_hearAck_24 a Post p1 x_40 M_40) ∧ (∀ a41 : Nat, x_40 = some a41 → (((z_fi M_40 778 a41) = 0 → P_X1_hearAck_25 a Post p1 x_40 1 M_40) ∧ (¬ (z_fi M_40 778 a41) = 0 → P_X1_hearAck_24 a Post p1 x_40 M_40)))))))
set_option maxRecDepth 100000 in
set_option maxHeartbeats 4000000 in
theorem v_X1_hearAck_89 {G : z_G} {M0 : z_Mem} {a : Nat} {Post : z_Mem → Prop} {J38 : Option Nat → Option Nat → Int32 → Int32 → z_Mem → Prop} (hJ38 : ∀ (x1 : Option Nat) (x2 : Option Nat) (x3 : Int32) (x4 : Int32) (M : z_Mem), (z_ki M a = 2) → (z_tr M x1 1) → (z_tr M x2 7) → (x3 = 0 ∨ x3 = 1) → J38 x1 x2 x3 x4 M → z_V G Y_X1_hearAck z_X0 M0 (z_QM G M0 (z_PV Post)) M 38 [(0, z_O (some a)), (1, z_O x1), (2, z_O x2), (3, z_I x3), (4, z_I x4)] []) {x1 : Option Nat} {x2 : Option Nat} {x3 : Int32} {x4 : Int32} {M : z_Mem} (ha : z_ki M a = 2) (f_x1 : z_tr M x1 1) (f_x2 : z_tr M x2 7) (f_x3 : x3 = 0 ∨ x3 = 1) (hP : P_X1_hearAck_89 a Post J38 x1 x2 x3 x4 M) : z_V G Y_X1_hearAck z_X0 M0 (z_QM G M0 (z_PV Post)) M 89 [(0, z_O (some a)), (1, z_O x1), (2, z_O x2), (3, z_I x3), (4, z_I x4)] [] := by
  unfold P_X1_hearAck_89 at hP
  refine z_iincN (j := 4) (m := (-1)) (lv' := fun v => [(4, z_I v), (0, z_O _), (1, z_O _), (2, z_O _), (3, z_I _)]) dX1_hearAck_89 rfl (by decide) (Nat.le_of_ble_eq_true rfl) (fun _ => rfl) (fun x_1 y_1 => ?_)
  replace hP := hP x_1 y_1
  refine z_goto (tgt := 38) dX1_hearAck_92 (by decide) ?_
  refine z_sub (lv' := [(0, z_O _), (1, z_O _), (2, z_O _), (3, z_I _), (4, z_I _)]) [1, 2, 3, 4, 0] rfl ?_
  exact hJ38 _ _ _ _ _ ha f_x1 f_x2 f_x3 hP
set_option maxRecDepth 100000 in
set_option maxHeartbeats 4000000 in
theorem v_X1_hearAck_52 {G : z_G} {M0 : z_Mem} {a : Nat} {Post : z_Mem → Prop} {J38 : Option Nat → Option Nat → Int32 → Int32 → z_Mem → Prop} (hJ38 : ∀ (x1 : Option Nat) (x2 : Option Nat) (x3 : Int32) (x4 : Int32) (M : z_Mem), (z_ki M a = 2) → (z_tr M x1 1) → (z_tr M x2 7) → (x3 = 0 ∨ x3 = 1) → J38 x1 x2 x3 x4 M → z_V G Y_X1_hearAck z_X0 M0 (z_QM G M0 (z_PV Post)) M 38 [(0, z_O (some a)), (1, z_O x1), (2, z_O x2), (3, z_I x3), (4, z_I x4)] []) : ∀ (n : Nat) {x1 : Option Nat} {x2 : Option Nat} {x3 : Int32} {x4 : Int32} {x5 : Int32} {M : z_Mem}, (z_ki M a = 2) → (z_tr M x1 1) → (z_tr M x2 7) → (x3 = 0 ∨ x3 = 1) → P_X1_hearAck_52 a Post J38 n x1 x2 x3 x4 x5 M → z_V G Y_X1_hearAck z_X0 M0 (z_QM G M0 (z_PV Post)) M 52 [(0, z_O (some a)), (1, z_O x1), (2, z_O x2), (3, z_I x3), (4, z_I x4), (5, z_I x5)] [] := by
  intro n
  induction n with
  | zero => intro x1 x2 x3 x4 x5 M ha f_x1 f_x2 f_x3 hP; exact False.elim hP
  | succ n ih =>
    intro x1 x2 x3 x4 x5 M ha f_x1 f_x2 f_x3 hP
    unfold P_X1_hearAck_52 at hP
    refine z_iload dX1_hearAck_52 5 rfl ?_
    refine z_aload_n dX1_hearAck_54 rfl 1 rfl ?_
    obtain ⟨a2, e2, hP⟩ := hP
    have k2 := f_x1 a2 e2
    refine z_getr (c := 0) (k := 1) (g := 1) (t := 20) z_cb0 (Nat.le_of_ble_eq_true rfl) (Nat.le_of_ble_eq_true rfl) rfl rfl zw_714 e2 k2 dX1_hearAck_55 (fun f3 => ?_)
    refine z_iload dX1_hearAck_58 4 rfl ?_
    obtain ⟨a4, e4, hP⟩ := hP
    have k4 := f3 a4 e4
    obtain ⟨i5, hP⟩ := hP
    refine z_iald e4 k4 i5 dX1_hearAck_60 ?_
    refine z_icmp_gt (tgt := 89) dX1_hearAck_61 (by decide) (fun h6 => ?_) (fun h6 => ?_)
    · replace hP := hP.1 h6
      refine z_sub (lv' := [(0, z_O _), (1, z_O _), (2, z_O _), (3, z_I _), (4, z_I _)]) [0, 1, 2, 3, 4] rfl ?_
      exact v_X1_hearAck_89 hJ38 ha (z_trn e2 k2) f_x2 f_x3 hP
    · replace hP := hP.2 h6
      refine z_iload dX1_hearAck_64 5 rfl ?_
      refine z_pc (pc' := 66) rfl ?_
      refine z_aload_n dX1_hearAck_66 rfl 0 rfl ?_
      refine z_geti (c := 1) (k := 5) (g := 133) z_cb1 (Nat.le_of_ble_eq_true rfl) (Nat.le_of_ble_eq_true rfl) rfl (Nat.le_of_ble_eq_true rfl) zw_430 rfl ha dX1_hearAck_67 ?_
      refine z_icmp_ge (tgt := 89) dX1_hearAck_70 (by decide) (fun h8 => ?_) (fun h8 => ?_)
      · replace hP := hP.1 h8
        refine z_sub (lv' := [(0, z_O _), (1, z_O _), (2, z_O _), (3, z_I _), (4, z_I _)]) [0, 1, 2, 3, 4] rfl ?_
        exact v_X1_hearAck_89 hJ38 ha (z_trn e2 k2) f_x2 f_x3 hP
      · replace hP := hP.2 h8
        refine z_aload_n dX1_hearAck_73 rfl 0 rfl ?_
        refine z_aload_n dX1_hearAck_74 rfl 0 rfl ?_
        refine z_iload dX1_hearAck_75 5 rfl ?_
        refine z_wts (fun hT9 _ => ?_)
        refine z_cVo (c := 1) (n := 1) (Y1 := Y_X1_packetAt) (st := [z_O _]) rfl ha z_cb1 (Nat.le_of_ble_eq_true rfl) rfl (s_X1_packetAt ha hP) rfl ⟨z_dc_X1_packetAt, ⟨(Nat.le_of_ble_eq_true rfl), (Nat.le_of_ble_eq_true rfl)⟩, (Nat.le_of_ble_eq_true rfl)⟩ rfl zw_849 zw_850 zw_851 zw_9 zw_852 dX1_hearAck_77 (fun x_9 M_9 f9 hP _ x9 => ?_)
        have ha := x9.k (k := 1) hT9 ha
        have k2 := x9.k (k := 0) hT9 k2
        have f_x2 := x9.t (k := 6) hT9 f_x2
        refine z_pc (pc' := 80) rfl ?_
        refine z_wts (fun hT10 _ => ?_)
        refine z_cVv (c := 1) (n := 1) (Y1 := Y_X1_acknowledge) (st := []) rfl ha z_cb1 (Nat.le_of_ble_eq_true rfl) rfl (s_X1_acknowledge ha f9 hP) rfl ⟨z_dc_X1_acknowledge, ⟨(Nat.le_of_ble_eq_true rfl), (Nat.le_of_ble_eq_true rfl)⟩, (Nat.le_of_ble_eq_true rfl)⟩ rfl zw_968 zw_970 zp_15 zw_9 zw_971 dX1_hearAck_80 (fun M_10 hP _ x10 => ?_)
        have ha := x10.k (k := 1) hT10 ha
        have k2 := x10.k (k := 0) hT10 k2
        have f_x2 := x10.t (k := 6) hT10 f_x2
        refine z_iincN (j := 5) (m := 1) (lv' := fun v => [(5, z_I v), (0, z_O _), (1, z_O _), (2, z_O _), (3, z_I _), (4, z_I _)]) dX1_hearAck_83 rfl (by decide) (Nat.le_of_ble_eq_true rfl) (fun _ => rfl) (fun x_11 y_11 => ?_)
        replace hP := hP x_11 y_11
        refine z_goto (tgt := 52) dX1_hearAck_86 (by decide) ?_
        refine z_sub (lv' := [(0, z_O _), (1, z_O _), (2, z_O _), (3, z_I _), (4, z_I _), (5, z_I _)]) [1, 2, 3, 4, 5, 0] rfl ?_
        exact ih ha (z_trn e2 k2) f_x2 f_x3 hP
set_option maxRecDepth 100000 in
set_option maxHeartbeats 4000000 in
theorem v_X1_hearAck_109 {G : z_G} {M0 : z_Mem} {a : Nat} {Post : z_Mem → Prop}   {x1 : Option Nat} {M : z_Mem} (ha : z_ki M a = 2) (f_x1 : z_tr M x1 1) (hP : P_X1_hearAck_109 a Post x1 M) : z_V G Y_X1_hearAck z_X0 M0 (z_QM G M0 (z_PV Post)) M 109 [(0, z_O (some a)), (1, z_O x1)] [] := by
  unfold P_X1_hearAck_109 at hP
  refine z_aload_n dX1_hearAck_109 rfl 0 rfl ?_
  refine z_aload_n dX1_hearAck_110 rfl 1 rfl ?_
  refine z_wts (fun hT12 _ => ?_)
  refine z_cVv (c := 1) (n := 1) (Y1 := Y_X1_takeCredits) (st := []) rfl ha z_cb1 (Nat.le_of_ble_eq_true rfl) rfl (s_X1_takeCredits ha f_x1 hP) rfl ⟨z_dc_X1_takeCredits, ⟨(Nat.le_of_ble_eq_true rfl), (Nat.le_of_ble_eq_true rfl)⟩, (Nat.le_of_ble_eq_true rfl)⟩ rfl zw_1011 zw_1013 zp_20 zw_9 zw_1014 dX1_hearAck_111 (fun M_12 hP _ x12 => ?_)
  have ha := x12.k (k := 1) hT12 ha
  have f_x1 := x12.t (k := 0) hT12 f_x1
  refine z_aload_n dX1_hearAck_114 rfl 0 rfl ?_
  refine z_getr (c := 1) (k := 2) (g := 130) (t := 8) z_cb1 (Nat.le_of_ble_eq_true rfl) (Nat.le_of_ble_eq_true rfl) rfl rfl zw_427 rfl ha dX1_hearAck_115 (fun f13 => ?_)
  refine z_iconst (v := 0) dX1_hearAck_118 (by decide) ?_
  refine z_pc (pc' := 119) rfl ?_
  obtain ⟨a14, e14, hP⟩ := hP
  have k14 := f13 a14 e14
  refine z_puti (c := 7) (k := 14) (g := 910) z_cb7 (Nat.le_of_ble_eq_true rfl) (Nat.le_of_ble_eq_true rfl) (Nat.le_of_ble_eq_true rfl) rfl rfl rfl zw_379 e14 k14 (Or.inl rfl) dX1_hearAck_119 ?_
  refine z_nm (fun M_15 g_15 => ?_)
  replace hP := hP M_15 g_15
  have q_15 := z_k1 g_15
  have ha := z_kk q_15 ha
  have f_x1 := z_trk q_15 f_x1
  refine z_aload_n dX1_hearAck_122 rfl 0 rfl ?_
  refine z_getr (c := 1) (k := 3) (g := 131) (t := 8) z_cb1 (Nat.le_of_ble_eq_true rfl) (Nat.le_of_ble_eq_true rfl) rfl rfl zw_428 rfl ha dX1_hearAck_123 (fun f16 => ?_)
  refine z_iconst (v := 0) dX1_hearAck_126 (by decide) ?_
  obtain ⟨a17, e17, hP⟩ := hP
  have k17 := f16 a17 e17
  refine z_puti (c := 7) (k := 14) (g := 910) z_cb7 (Nat.le_of_ble_eq_true rfl) (Nat.le_of_ble_eq_true rfl) (Nat.le_of_ble_eq_true rfl) rfl rfl rfl zw_379 e17 k17 (Or.inl rfl) dX1_hearAck_127 ?_
  refine z_nm (fun M_18 g_18 => ?_)
  replace hP := hP M_18 g_18
  have q_18 := z_k1 g_18
  have ha := z_kk q_18 ha
  have f_x1 := z_trk q_18 f_x1
  refine z_aload_n dX1_hearAck_130 rfl 0 rfl ?_
  refine z_pc (pc' := 131) rfl ?_
  refine z_aload_n dX1_hearAck_131 rfl 0 rfl ?_
  refine z_getr (c := 1) (k := 2) (g := 130) (t := 8) z_cb1 (Nat.le_of_ble_eq_true rfl) (Nat.le_of_ble_eq_true rfl) rfl rfl zw_427 rfl ha dX1_hearAck_132 (fun f19 => ?_)
  refine z_iconst (v := 1) dX1_hearAck_135 (by decide) ?_
  refine z_wts (fun hT20 _ => ?_)
  refine z_cVv (c := 1) (n := 2) (Y1 := Y_X1_findLosses) (st := []) rfl ha z_cb1 (Nat.le_of_ble_eq_true rfl) rfl (s_X1_findLosses ha f19 (Or.inr rfl) hP) rfl ⟨z_dc_X1_findLosses, ⟨(Nat.le_of_ble_eq_true rfl), (Nat.le_of_ble_eq_true rfl)⟩, (Nat.le_of_ble_eq_true rfl)⟩ rfl zw_1015 zw_1017 zp_21 zw_9 zw_1018 dX1_hearAck_136 (fun M_20 hP _ x20 => ?_)
  have ha := x20.k (k := 1) hT20 ha
  have f_x1 := x20.t (k := 0) hT20 f_x1
  refine z_aload_n dX1_hearAck_139 rfl 0 rfl ?_
  refine z_aload_n dX1_hearAck_140 rfl 0 rfl ?_
  refine z_pc (pc' := 141) rfl ?_
  refine z_getr (c := 1) (k := 3) (g := 131) (t := 8) z_cb1 (Nat.le_of_ble_eq_true rfl) (Nat.le_of_ble_eq_true rfl) rfl rfl zw_428 rfl ha dX1_hearAck_141 (fun f21 => ?_)
  refine z_iconst (v := 1) dX1_hearAck_144 (by decide) ?_
  refine z_wts (fun hT22 _ => ?_)
  refine z_cVv (c := 1) (n := 2) (Y1 := Y_X1_findLosses) (st := []) rfl ha z_cb1 (Nat.le_of_ble_eq_true rfl) rfl (s_X1_findLosses ha f21 (Or.inr rfl) hP) rfl ⟨z_dc_X1_findLosses, ⟨(Nat.le_of_ble_eq_true rfl), (Nat.le_of_ble_eq_true rfl)⟩, (Nat.le_of_ble_eq_true rfl)⟩ rfl zw_1015 zw_1017 zp_21 zw_9 zw_1018 dX1_hearAck_145 (fun M_22 hP _ x22 => ?_)
  have ha := x22.k (k := 1) hT22 ha
  have f_x1 := x22.t (k := 0) hT22 f_x1
  exact z_retv rfl dX1_hearAck_148 hP
set_option maxRecDepth 100000 in
set_option maxHeartbeats 4000000 in
theorem v_X1_hearAck_38 {G : z_G} {M0 : z_Mem} {a : Nat} {Post : z_Mem → Prop}   : ∀ (n : Nat) {x1 : Option Nat} {x2 : Option Nat} {x3 : Int32} {x4 : Int32} {M : z_Mem}, (z_ki M a = 2) → (z_tr M x1 1) → (z_tr M x2 7) → (x3 = 0 ∨ x3 = 1) → P_X1_hearAck_38 a Post n x1 x2 x3 x4 M → z_V G Y_X1_hearAck z_X0 M0 (z_QM G M0 (z_PV Post)) M 38 [(0, z_O (some a)), (1, z_O x1), (2, z_O x2), (3, z_I x3), (4, z_I x4)] [] := by
  intro n
  induction n with
  | zero => intro x1 x2 x3 x4 M ha f_x1 f_x2 f_x3 hP; exact False.elim hP
  | succ n ih =>
    intro x1 x2 x3 x4 M ha f_x1 f_x2 f_x3 hP
    unfold P_X1_hearAck_38 at hP
    refine z_iload dX1_hearAck_38 4 rfl ?_
    refine z_if_lt (tgt := 95) dX1_hearAck_40 (by decide) (fun h23 => ?_) (fun h23 => ?_)
    · replace hP := hP.1 h23
      refine z_aload_n dX1_hearAck_95 rfl 2 rfl ?_
      refine z_ifnull (tgt := 109) dX1_hearAck_96 (by decide) (fun h24 => ?_) (fun a24 e24 => ?_)
      · replace hP := hP.1 h24
        refine z_sub (lv' := [(0, z_O _), (1, z_O _)]) [0, 1] rfl ?_
        exact v_X1_hearAck_109  ha f_x1 hP
      · replace hP := hP.2 a24 e24
        have k24 := f_x2 a24 e24
        refine z_aload_n dX1_hearAck_99 rfl 0 rfl ?_
        refine z_aload_n dX1_hearAck_100 rfl 2 rfl ?_
        refine z_iload_n dX1_hearAck_101 rfl 3 rfl ?_
        refine z_aload_n dX1_hearAck_102 rfl 1 rfl ?_
        refine z_pc (pc' := 103) rfl ?_
        obtain ⟨a25, e25, hP⟩ := hP
        have k25 := f_x1 a25 e25
        refine z_geti (c := 0) (k := 4) (g := 4) z_cb0 (Nat.le_of_ble_eq_true rfl) (Nat.le_of_ble_eq_true rfl) rfl (Nat.le_of_ble_eq_true rfl) zw_721 e25 k25 dX1_hearAck_103 ?_
        refine z_wts (fun hT27 _ => ?_)
        refine z_cVv (c := 1) (n := 3) (Y1 := Y_X1_hearOfGreatest) (st := []) rfl ha z_cb1 (Nat.le_of_ble_eq_true rfl) rfl (s_X1_hearOfGreatest ha (z_trn e24 k24) f_x3 hP) rfl ⟨z_dc_X1_hearOfGreatest, ⟨(Nat.le_of_ble_eq_true rfl), (Nat.le_of_ble_eq_true rfl)⟩, (Nat.le_of_ble_eq_true rfl)⟩ rfl zw_1003 zw_1005 zp_19 zw_9 zw_1006 dX1_hearAck_106 (fun M_27 hP _ x27 => ?_)
        have ha := x27.k (k := 1) hT27 ha
        have k25 := x27.k (k := 0) hT27 k25
        have k24 := x27.k (k := 6) hT27 k24
        refine z_sub (lv' := [(0, z_O _), (1, z_O _)]) [0, 1] rfl ?_
        exact v_X1_hearAck_109  ha (z_trn e25 k25) hP
    · replace hP := hP.2 h23
      refine z_aload_n dX1_hearAck_43 rfl 1 rfl ?_
      obtain ⟨a28, e28, hP⟩ := hP
      have k28 := f_x1 a28 e28
      refine z_getr (c := 0) (k := 0) (g := 0) (t := 20) z_cb0 (Nat.le_of_ble_eq_true rfl) (Nat.le_of_ble_eq_true rfl) rfl rfl zw_712 e28 k28 dX1_hearAck_44 (fun f29 => ?_)
      refine z_iload dX1_hearAck_47 4 rfl ?_
      obtain ⟨a30, e30, hP⟩ := hP
      have k30 := f29 a30 e30
      obtain ⟨i31, hP⟩ := hP
      refine z_iald e30 k30 i31 dX1_hearAck_49 ?_
      refine z_topi (fun x_32 y_32 => ?_)
      replace hP := hP x_32 y_32
      refine z_istore (lv' := [(5, z_I _), (0, z_O _), (1, z_O _), (2, z_O _), (3, z_I _), (4, z_I _)]) dX1_hearAck_50 (Nat.le_of_ble_eq_true rfl) rfl ?_
      obtain ⟨n33, hP⟩ := hP
      refine z_sub (lv' := [(0, z_O _), (1, z_O _), (2, z_O _), (3, z_I _), (4, z_I _), (5, z_I _)]) [1, 2, 3, 4, 5, 0] rfl ?_
      exact v_X1_hearAck_52 (fun _ _ _ _ _ w0 w1 w2 w3 hP => ih w0 w1 w2 w3 hP) n33 ha (z_trn e28 k28) f_x2 f_x3 hP
set_option maxRecDepth 100000 in
set_option maxHeartbeats 4000000 in
theorem v_X1_hearAck_25 {G : z_G} {M0 : z_Mem} {a : Nat} {Post : z_Mem → Prop}   {x1 : Option Nat} {x2 : Option Nat} {t0 : Int32} {M : z_Mem} (ha : z_ki M a = 2) (f_x1 : z_tr M x1 1) (f_x2 : z_tr M x2 7) (f_t0 : t0 = 0 ∨ t0 = 1) (hP : P_X1_hearAck_25 a Post x1 x2 t0 M) : z_V G Y_X1_hearAck z_X0 M0 (z_QM G M0 (z_PV Post)) M 25 [(0, z_O (some a)), (1, z_O x1), (2, z_O x2)] [z_I t0] := by
  unfold P_X1_hearAck_25 at hP
  refine z_istore_n (lv' := [(3, z_I _), (0, z_O _), (1, z_O _), (2, z_O _)]) dX1_hearAck_25 rfl (Nat.le_of_ble_eq_true rfl) rfl ?_
  refine z_aload_n dX1_hearAck_26 rfl 2 rfl ?_
  obtain ⟨a34, e34, hP⟩ := hP
  have k34 := f_x1 a34 e34
  refine z_geti (c := 0) (k := 3) (g := 3) z_cb0 (Nat.le_of_ble_eq_true rfl) (Nat.le_of_ble_eq_true rfl) rfl (Nat.le_of_ble_eq_true rfl) zw_719 e34 k34 dX1_hearAck_27 ?_
  refine z_iconst (v := 4) dX1_hearAck_30 (by decide) ?_
  refine z_mmin zw_967 zw_692 zw_5 zw_693 dX1_hearAck_31 (Nat.le_of_ble_eq_true rfl) (Nat.le_of_ble_eq_true rfl) ?_
  refine z_iconst (v := 1) dX1_hearAck_34 (by decide) ?_
  refine z_pc (pc' := 35) rfl ?_
  refine z_isub dX1_hearAck_35 ?_
  refine z_topi (fun x_36 y_36 => ?_)
  replace hP := hP x_36 y_36
  refine z_istore (lv' := [(4, z_I _), (3, z_I _), (0, z_O _), (1, z_O _), (2, z_O _)]) dX1_hearAck_36 (Nat.le_of_ble_eq_true rfl) rfl ?_
  obtain ⟨n37, hP⟩ := hP
  refine z_sub (lv' := [(0, z_O _), (1, z_O _), (2, z_O _), (3, z_I _), (4, z_I _)]) [2, 3, 4, 1, 0] rfl ?_
  exact v_X1_hearAck_38  n37 ha (z_trn e34 k34) f_x2 f_t0 hP
set_option maxRecDepth 100000 in
set_option maxHeartbeats 4000000 in
theorem v_X1_hearAck_24 {G : z_G} {M0 : z_Mem} {a : Nat} {Post : z_Mem → Prop}   {x1 : Option Nat} {x2 : Option Nat} {M : z_Mem} (ha : z_ki M a = 2) (f_x1 : z_tr M x1 1) (f_x2 : z_tr M x2 7) (hP : P_X1_hearAck_24 a Post x1 x2 M) : z_V G Y_X1_hearAck z_X0 M0 (z_QM G M0 (z_PV Post)) M 24 [(0, z_O (some a)), (1, z_O x1), (2, z_O x2)] [] := by
  unfold P_X1_hearAck_24 at hP
  refine z_iconst (v := 0) dX1_hearAck_24 (by decide) ?_
  refine z_sub (lv' := [(0, z_O _), (1, z_O _), (2, z_O _)]) [0, 1, 2] rfl ?_
  exact v_X1_hearAck_25  ha f_x1 f_x2 (Or.inl rfl) hP
set_option maxRecDepth 100000 in
set_option maxHeartbeats 4000000 in
theorem s_X1_hearAck {G : z_G} {M : z_Mem} {a : Nat} {p1 : Option Nat} {Post : z_Mem → Prop} (ha : z_ki M a = 2) (f_p1 : z_tr M p1 1) (hP : P_X1_hearAck a p1 M Post) : z_Mt G Y_X1_hearAck M [z_O (some a), z_O p1] (z_PV Post) := by
  refine z_ofV (by decide) (Nat.le_of_ble_eq_true rfl) ?_
  unfold P_X1_hearAck at hP
  refine z_sub (lv' := [(0, z_O (some a)), (1, z_O p1)]) [0, 1] rfl ?_
  refine z_aload_n dX1_hearAck_0 rfl 0 rfl ?_
  refine z_aload_n dX1_hearAck_1 rfl 1 rfl ?_
  obtain ⟨a39, e39, hP⟩ := hP
  have k39 := f_p1 a39 e39
  refine z_wts (fun hT38 _ => ?_)
  refine z_cVi (c := 0) (n := 0) (Y1 := Y_X0_greatest) (st := [z_O _]) e39 k39 z_cb0 (Nat.le_of_ble_eq_true rfl) rfl (s_X0_greatest k39 hP) rfl ⟨z_dc_X0_greatest, ⟨(Nat.le_of_ble_eq_true rfl), (Nat.le_of_ble_eq_true rfl)⟩, (Nat.le_of_ble_eq_true rfl)⟩ rfl zw_963 zw_964 zw_965 zw_18 zw_966 dX1_hearAck_2 (fun x_38 M_38 hP _ x38 => ?_)
  have ha := x38.k (k := 1) hT38 ha
  have k39 := x38.k (k := 0) hT38 k39
  refine z_wts (fun hT40 _ => ?_)
  refine z_cVo (c := 1) (n := 1) (Y1 := Y_X1_packetAt) (st := []) rfl ha z_cb1 (Nat.le_of_ble_eq_true rfl) rfl (s_X1_packetAt ha hP) rfl ⟨z_dc_X1_packetAt, ⟨(Nat.le_of_ble_eq_true rfl), (Nat.le_of_ble_eq_true rfl)⟩, (Nat.le_of_ble_eq_true rfl)⟩ rfl zw_849 zw_850 zw_851 zw_9 zw_852 dX1_hearAck_5 (fun x_40 M_40 f40 hP _ x40 => ?_)
  have ha := x40.k (k := 1) hT40 ha
  have k39 := x40.k (k := 0) hT40 k39
  refine z_astore_n (lv' := [(2, z_O _), (0, z_O _), (1, z_O _)]) dX1_hearAck_8 rfl (Nat.le_of_ble_eq_true rfl) rfl ?_
  refine z_aload_n dX1_hearAck_9 rfl 0 rfl ?_
  refine z_pc (pc' := 10) rfl ?_
  refine z_ifnull (tgt := 24) dX1_hearAck_10 (by decide) (fun h41 => ?_) (fun a41 e41 => ?_)
  · replace hP := hP.1 h41
    refine z_sub (lv' := [(0, z_O _), (1, z_O _), (2, z_O _)]) [1, 2, 0] rfl ?_
    exact v_X1_hearAck_24  ha (z_trn e39 k39) f40 hP
  · replace hP := hP.2 a41 e41
    have k41 := f40 a41 e41
    refine z_aload_n dX1_hearAck_13 rfl 0 rfl ?_
    refine z_geti (c := 6) (k := 10) (g := 778) z_cb6 (Nat.le_of_ble_eq_true rfl) (Nat.le_of_ble_eq_true rfl) rfl (Nat.le_of_ble_eq_true rfl) zw_1092 e41 k41 dX1_hearAck_14 ?_
    refine z_if_ne (tgt := 24) dX1_hearAck_17 (by decide) (fun h43 => ?_) (fun h43 => ?_)
    · replace hP := hP.2 h43
      refine z_sub (lv' := [(0, z_O _), (1, z_O _), (2, z_O _)]) [1, 2, 0] rfl ?_
      exact v_X1_hearAck_24  ha (z_trn e39 k39) (z_trn e41 k41) hP
    · replace hP := hP.1 h43
      refine z_iconst (v := 1) dX1_hearAck_20 (by decide) ?_
      refine z_goto (tgt := 25) dX1_hearAck_21 (by decide) ?_
      refine z_sub (lv' := [(0, z_O _), (1, z_O _), (2, z_O _)]) [1, 2, 0] rfl ?_
      exact v_X1_hearAck_25  ha (z_trn e39 k39) (z_trn e41 k41) (Or.inr rfl) hP
def P_X1_hear_92 (a : Nat) (Post : z_Mem → Prop)  (x1 : Option Nat) (x2 : Int32) (M : z_Mem) : Prop := z_nn x1 fun a1 => ((((z_fi M 512 a1) = 2 → ((x2 = 0 → (((z_fr M 516 a1) = none → Post M) ∧ (∀ a11 : Nat, (z_fr M 516 a1) = some a11 → ((x2 = 0 → P_X1_hearAck a (z_fr M 516 a1) M fun M_14 => (Post M_14)) ∧ (¬ x2 = 0 → Post M))))) ∧ (¬ x2 = 0 → P_X1_hearAccept a (z_fi M 519 a1) M fun M_16 => (Post M_16)))) ∧ (¬ (z_fi M 512 a1) = 2 → (((z_fr M 516 a1) = none → Post M) ∧ (∀ a5 : Nat, (z_fr M 516 a1) = some a5 → ((x2 = 0 → P_X1_hearAck a (z_fr M 516 a1) M fun M_8 => (Post M_8)) ∧ (¬ x2 = 0 → Post M)))))))
def P_X1_hear_13 (a : Nat) (Post : z_Mem → Prop)  (x1 : Option Nat) (t0 : Int32) (M : z_Mem) : Prop := z_nn x1 fun a17 => ((((z_fi M 512 a17) = 8 → ∀ M_34 : z_Mem, M_34 = z_sfi M 135 a 5 → (Post M_34)) ∧ (¬ (z_fi M 512 a17) = 8 → (((z_fi M 512 a17) = 6 → P_X1_routeOf a (z_fi M 513 a17) M fun x_31 M_31 => (z_nn x_31 fun a32 => (∀ M_33 : z_Mem, M_33 = z_sfi M_31 898 a32 1 → (Post M_33)))) ∧ (¬ (z_fi M 512 a17) = 6 → (((z_fi M 512 a17) = 1 → ((t0 = 0 → P_X1_hear_92 a Post x1 t0 M) ∧ (¬ t0 = 0 → (((z_fi M 137 a) = 0 → ∀ M_27 : z_Mem, M_27 = z_sfi M 137 a 1 → (∀ M_28 : z_Mem, M_28 = z_sfi M_27 140 a 10 → (P_X1_sayHello a M_28 fun M_29 => (Post M_29)))) ∧ (¬ (z_fi M 137 a) = 0 → P_X1_hear_92 a Post x1 t0 M))))) ∧ (¬ (z_fi M 512 a17) = 1 → P_X1_hear_92 a Post x1 t0 M)))))))
set_option maxRecDepth 100000 in
def P_X1_hear (a : Nat) (p1 : Option Nat) (M : z_Mem) (Post : z_Mem → Prop) : Prop := (((z_fi M 135 a) = 1 → P_X1_hear_13 a Post p1 1 M) ∧ (¬ (z_fi M 135 a) = 1 → P_X1_hear_13 a Post p1 0 M))
set_option maxRecDepth 100000 in
set_option maxHeartbeats 4000000 in
theorem v_X1_hear_92 {G : z_G} {M0 : z_Mem} {a : Nat} {Post : z_Mem → Prop}   {x1 : Option Nat} {x2 : Int32} {M : z_Mem} (ha : z_ki M a = 2) (f_x1 : z_tr M x1 5) (f_x2 : x2 = 0 ∨ x2 = 1) (hP : P_X1_hear_92 a Post x1 x2 M) : z_V G Y_X1_hear z_X0 M0 (z_QM G M0 (z_PV Post)) M 92 [(0, z_O (some a)), (1, z_O x1), (2, z_I x2)] [] := by
  unfold P_X1_hear_92 at hP
  refine z_aload_n dX1_hear_92 rfl 1 rfl ?_
  obtain ⟨a1, e1, hP⟩ := hP
  have k1 := f_x1 a1 e1
  refine z_geti (c := 4) (k := 0) (g := 512) z_cb4 (Nat.le_of_ble_eq_true rfl) (Nat.le_of_ble_eq_true rfl) rfl (Nat.le_of_ble_eq_true rfl) zw_123 e1 k1 dX1_hear_93 ?_
  refine z_iconst (v := 2) dX1_hear_96 (by decide) ?_
  refine z_icmp_ne (tgt := 115) dX1_hear_97 (by decide) (fun h3 => ?_) (fun h3 => ?_)
  · replace hP := hP.2 h3
    refine z_aload_n dX1_hear_115 rfl 1 rfl ?_
    refine z_getr (c := 4) (k := 4) (g := 516) (t := 1) z_cb4 (Nat.le_of_ble_eq_true rfl) (Nat.le_of_ble_eq_true rfl) rfl rfl zw_131 e1 k1 dX1_hear_116 (fun f4 => ?_)
    refine z_ifnull (tgt := 134) dX1_hear_119 (by decide) (fun h5 => ?_) (fun a5 e5 => ?_)
    · replace hP := hP.1 h5
      exact z_retv rfl dX1_hear_134 hP
    · replace hP := hP.2 a5 e5
      have k5 := f4 a5 e5
      refine z_iload_n dX1_hear_122 rfl 2 rfl ?_
      refine z_pc (pc' := 123) rfl ?_
      refine z_if_ne (tgt := 134) dX1_hear_123 (by decide) (fun h6 => ?_) (fun h6 => ?_)
      · replace hP := hP.2 h6
        exact z_retv rfl dX1_hear_134 hP
      · replace hP := hP.1 h6
        refine z_aload_n dX1_hear_126 rfl 0 rfl ?_
        refine z_aload_n dX1_hear_127 rfl 1 rfl ?_
        refine z_getr (c := 4) (k := 4) (g := 516) (t := 1) z_cb4 (Nat.le_of_ble_eq_true rfl) (Nat.le_of_ble_eq_true rfl) rfl rfl zw_131 e1 k1 dX1_hear_128 (fun f7 => ?_)
        refine z_wts (fun hT8 _ => ?_)
        refine z_cVv (c := 1) (n := 1) (Y1 := Y_X1_hearAck) (st := []) rfl ha z_cb1 (Nat.le_of_ble_eq_true rfl) rfl (s_X1_hearAck ha f7 hP) rfl ⟨z_dc_X1_hearAck, ⟨(Nat.le_of_ble_eq_true rfl), (Nat.le_of_ble_eq_true rfl)⟩, (Nat.le_of_ble_eq_true rfl)⟩ rfl zw_959 zw_961 zp_14 zw_9 zw_962 dX1_hear_131 (fun M_8 hP _ x8 => ?_)
        have ha := x8.k (k := 1) hT8 ha
        have k1 := x8.k (k := 4) hT8 k1
        exact z_retv rfl dX1_hear_134 hP
  · replace hP := hP.1 h3
    refine z_iload_n dX1_hear_100 rfl 2 rfl ?_
    refine z_if_eq (tgt := 115) dX1_hear_101 (by decide) (fun h9 => ?_) (fun h9 => ?_)
    · replace hP := hP.1 h9
      refine z_aload_n dX1_hear_115 rfl 1 rfl ?_
      refine z_getr (c := 4) (k := 4) (g := 516) (t := 1) z_cb4 (Nat.le_of_ble_eq_true rfl) (Nat.le_of_ble_eq_true rfl) rfl rfl zw_131 e1 k1 dX1_hear_116 (fun f10 => ?_)
      refine z_pc (pc' := 119) rfl ?_
      refine z_ifnull (tgt := 134) dX1_hear_119 (by decide) (fun h11 => ?_) (fun a11 e11 => ?_)
      · replace hP := hP.1 h11
        exact z_retv rfl dX1_hear_134 hP
      · replace hP := hP.2 a11 e11
        have k11 := f10 a11 e11
        refine z_iload_n dX1_hear_122 rfl 2 rfl ?_
        refine z_if_ne (tgt := 134) dX1_hear_123 (by decide) (fun h12 => ?_) (fun h12 => ?_)
        · replace hP := hP.2 h12
          exact z_retv rfl dX1_hear_134 hP
        · replace hP := hP.1 h12
          refine z_aload_n dX1_hear_126 rfl 0 rfl ?_
          refine z_aload_n dX1_hear_127 rfl 1 rfl ?_
          refine z_getr (c := 4) (k := 4) (g := 516) (t := 1) z_cb4 (Nat.le_of_ble_eq_true rfl) (Nat.le_of_ble_eq_true rfl) rfl rfl zw_131 e1 k1 dX1_hear_128 (fun f13 => ?_)
          refine z_wts (fun hT14 _ => ?_)
          refine z_cVv (c := 1) (n := 1) (Y1 := Y_X1_hearAck) (st := []) rfl ha z_cb1 (Nat.le_of_ble_eq_true rfl) rfl (s_X1_hearAck ha f13 hP) rfl ⟨z_dc_X1_hearAck, ⟨(Nat.le_of_ble_eq_true rfl), (Nat.le_of_ble_eq_true rfl)⟩, (Nat.le_of_ble_eq_true rfl)⟩ rfl zw_959 zw_961 zp_14 zw_9 zw_962 dX1_hear_131 (fun M_14 hP _ x14 => ?_)
          have ha := x14.k (k := 1) hT14 ha
          have k1 := x14.k (k := 4) hT14 k1
          exact z_retv rfl dX1_hear_134 hP
    · replace hP := hP.2 h9
      refine z_aload_n dX1_hear_104 rfl 0 rfl ?_
      refine z_aload_n dX1_hear_105 rfl 1 rfl ?_
      refine z_pc (pc' := 106) rfl ?_
      refine z_getb (c := 4) (k := 7) (g := 519) z_cb4 (Nat.le_of_ble_eq_true rfl) (Nat.le_of_ble_eq_true rfl) rfl rfl zw_139 e1 k1 dX1_hear_106 (fun b15 => ?_)
      refine z_wts (fun hT16 _ => ?_)
      refine z_cVv (c := 1) (n := 1) (Y1 := Y_X1_hearAccept) (st := []) rfl ha z_cb1 (Nat.le_of_ble_eq_true rfl) rfl (s_X1_hearAccept ha b15 hP) rfl ⟨z_dc_X1_hearAccept, ⟨(Nat.le_of_ble_eq_true rfl), (Nat.le_of_ble_eq_true rfl)⟩, (Nat.le_of_ble_eq_true rfl)⟩ rfl zw_930 zw_932 zp_12 zw_9 zw_933 dX1_hear_109 (fun M_16 hP _ x16 => ?_)
      have ha := x16.k (k := 1) hT16 ha
      have k1 := x16.k (k := 4) hT16 k1
      refine z_goto (tgt := 134) dX1_hear_112 (by decide) ?_
      exact z_retv rfl dX1_hear_134 hP
set_option maxRecDepth 100000 in
set_option maxHeartbeats 4000000 in
theorem v_X1_hear_13 {G : z_G} {M0 : z_Mem} {a : Nat} {Post : z_Mem → Prop}   {x1 : Option Nat} {t0 : Int32} {M : z_Mem} (ha : z_ki M a = 2) (f_x1 : z_tr M x1 5) (f_t0 : t0 = 0 ∨ t0 = 1) (hP : P_X1_hear_13 a Post x1 t0 M) : z_V G Y_X1_hear z_X0 M0 (z_QM G M0 (z_PV Post)) M 13 [(0, z_O (some a)), (1, z_O x1)] [z_I t0] := by
  unfold P_X1_hear_13 at hP
  refine z_istore_n (lv' := [(2, z_I _), (0, z_O _), (1, z_O _)]) dX1_hear_13 rfl (Nat.le_of_ble_eq_true rfl) rfl ?_
  refine z_aload_n dX1_hear_14 rfl 2 rfl ?_
  obtain ⟨a17, e17, hP⟩ := hP
  have k17 := f_x1 a17 e17
  refine z_geti (c := 4) (k := 0) (g := 512) z_cb4 (Nat.le_of_ble_eq_true rfl) (Nat.le_of_ble_eq_true rfl) rfl (Nat.le_of_ble_eq_true rfl) zw_123 e17 k17 dX1_hear_15 ?_
  refine z_bipush (v := 8) dX1_hear_18 (by decide) ?_
  refine z_icmp_ne (tgt := 31) dX1_hear_20 (by decide) (fun h19 => ?_) (fun h19 => ?_)
  · replace hP := hP.2 h19
    refine z_aload_n dX1_hear_31 rfl 2 rfl ?_
    refine z_geti (c := 4) (k := 0) (g := 512) z_cb4 (Nat.le_of_ble_eq_true rfl) (Nat.le_of_ble_eq_true rfl) rfl (Nat.le_of_ble_eq_true rfl) zw_123 e17 k17 dX1_hear_32 ?_
    refine z_pc (pc' := 35) rfl ?_
    refine z_bipush (v := 6) dX1_hear_35 (by decide) ?_
    refine z_icmp_ne (tgt := 55) dX1_hear_37 (by decide) (fun h21 => ?_) (fun h21 => ?_)
    · replace hP := hP.2 h21
      refine z_aload_n dX1_hear_55 rfl 2 rfl ?_
      refine z_geti (c := 4) (k := 0) (g := 512) z_cb4 (Nat.le_of_ble_eq_true rfl) (Nat.le_of_ble_eq_true rfl) rfl (Nat.le_of_ble_eq_true rfl) zw_123 e17 k17 dX1_hear_56 ?_
      refine z_iconst (v := 1) dX1_hear_59 (by decide) ?_
      refine z_icmp_ne (tgt := 92) dX1_hear_60 (by decide) (fun h23 => ?_) (fun h23 => ?_)
      · replace hP := hP.2 h23
        refine z_sub (lv' := [(0, z_O _), (1, z_O _), (2, z_I _)]) [1, 2, 0] rfl ?_
        exact v_X1_hear_92  ha (z_trn e17 k17) f_t0 hP
      · replace hP := hP.1 h23
        refine z_iload_n dX1_hear_63 rfl 0 rfl ?_
        refine z_if_eq (tgt := 92) dX1_hear_64 (by decide) (fun h24 => ?_) (fun h24 => ?_)
        · replace hP := hP.1 h24
          refine z_sub (lv' := [(0, z_O _), (1, z_O _), (2, z_I _)]) [1, 2, 0] rfl ?_
          exact v_X1_hear_92  ha (z_trn e17 k17) f_t0 hP
        · replace hP := hP.2 h24
          refine z_aload_n dX1_hear_67 rfl 1 rfl ?_
          refine z_pc (pc' := 68) rfl ?_
          refine z_getb (c := 1) (k := 9) (g := 137) z_cb1 (Nat.le_of_ble_eq_true rfl) (Nat.le_of_ble_eq_true rfl) rfl rfl zw_436 rfl ha dX1_hear_68 (fun b25 => ?_)
          refine z_if_ne (tgt := 92) dX1_hear_71 (by decide) (fun h26 => ?_) (fun h26 => ?_)
          · replace hP := hP.2 h26
            refine z_sub (lv' := [(0, z_O _), (1, z_O _), (2, z_I _)]) [1, 2, 0] rfl ?_
            exact v_X1_hear_92  ha (z_trn e17 k17) f_t0 hP
          · replace hP := hP.1 h26
            refine z_aload_n dX1_hear_74 rfl 1 rfl ?_
            refine z_iconst (v := 1) dX1_hear_75 (by decide) ?_
            refine z_putb (c := 1) (k := 9) (g := 137) z_cb1 (Nat.le_of_ble_eq_true rfl) (Nat.le_of_ble_eq_true rfl) (Nat.le_of_ble_eq_true rfl) rfl rfl rfl zw_436 rfl ha (Or.inr rfl) (Or.inl rfl) dX1_hear_76 ?_
            refine z_nm (fun M_27 g_27 => ?_)
            replace hP := hP M_27 g_27
            have q_27 := z_k1 g_27
            have ha := z_kk q_27 ha
            have k17 := z_kk q_27 k17
            refine z_aload_n dX1_hear_79 rfl 1 rfl ?_
            refine z_bipush (v := 10) dX1_hear_80 (by decide) ?_
            refine z_pc (pc' := 82) rfl ?_
            refine z_puti (c := 1) (k := 12) (g := 140) z_cb1 (Nat.le_of_ble_eq_true rfl) (Nat.le_of_ble_eq_true rfl) (Nat.le_of_ble_eq_true rfl) rfl rfl rfl zw_440 rfl ha (Or.inl rfl) dX1_hear_82 ?_
            refine z_nm (fun M_28 g_28 => ?_)
            replace hP := hP M_28 g_28
            have q_28 := z_k1 g_28
            have ha := z_kk q_28 ha
            have k17 := z_kk q_28 k17
            refine z_aload_n dX1_hear_85 rfl 1 rfl ?_
            refine z_wts (fun hT29 _ => ?_)
            refine z_cVv (c := 1) (n := 0) (Y1 := Y_X1_sayHello) (st := []) rfl ha z_cb1 (Nat.le_of_ble_eq_true rfl) rfl (s_X1_sayHello ha hP) rfl ⟨z_dc_X1_sayHello, ⟨(Nat.le_of_ble_eq_true rfl), (Nat.le_of_ble_eq_true rfl)⟩, (Nat.le_of_ble_eq_true rfl)⟩ rfl zw_788 zw_790 zp_4 zw_9 zw_791 dX1_hear_86 (fun M_29 hP _ x29 => ?_)
            have ha := x29.k (k := 1) hT29 ha
            have k17 := x29.k (k := 4) hT29 k17
            refine z_goto (tgt := 134) dX1_hear_89 (by decide) ?_
            exact z_retv rfl dX1_hear_134 hP
    · replace hP := hP.1 h21
      refine z_aload_n dX1_hear_40 rfl 1 rfl ?_
      refine z_aload_n dX1_hear_41 rfl 2 rfl ?_
      refine z_geti (c := 4) (k := 1) (g := 513) z_cb4 (Nat.le_of_ble_eq_true rfl) (Nat.le_of_ble_eq_true rfl) rfl (Nat.le_of_ble_eq_true rfl) zw_126 e17 k17 dX1_hear_42 ?_
      refine z_wts (fun hT31 _ => ?_)
      refine z_cVo (c := 1) (n := 1) (Y1 := Y_X1_routeOf) (st := []) rfl ha z_cb1 (Nat.le_of_ble_eq_true rfl) rfl (s_X1_routeOf ha hP) rfl ⟨z_dc_X1_routeOf, ⟨(Nat.le_of_ble_eq_true rfl), (Nat.le_of_ble_eq_true rfl)⟩, (Nat.le_of_ble_eq_true rfl)⟩ rfl zw_929 zw_818 zw_819 zw_9 zw_820 dX1_hear_45 (fun x_31 M_31 f31 hP _ x31 => ?_)
      have ha := x31.k (k := 1) hT31 ha
      have k17 := x31.k (k := 4) hT31 k17
      refine z_iconst (v := 1) dX1_hear_48 (by decide) ?_
      refine z_pc (pc' := 49) rfl ?_
      obtain ⟨a32, e32, hP⟩ := hP
      have k32 := f31 a32 e32
      refine z_putb (c := 7) (k := 2) (g := 898) z_cb7 (Nat.le_of_ble_eq_true rfl) (Nat.le_of_ble_eq_true rfl) (Nat.le_of_ble_eq_true rfl) rfl rfl rfl zw_355 e32 k32 (Or.inr rfl) (Or.inl rfl) dX1_hear_49 ?_
      refine z_nm (fun M_33 g_33 => ?_)
      replace hP := hP M_33 g_33
      have q_33 := z_k1 g_33
      have ha := z_kk q_33 ha
      have k17 := z_kk q_33 k17
      refine z_goto (tgt := 134) dX1_hear_52 (by decide) ?_
      exact z_retv rfl dX1_hear_134 hP
  · replace hP := hP.1 h19
    refine z_aload_n dX1_hear_23 rfl 1 rfl ?_
    refine z_iconst (v := 5) dX1_hear_24 (by decide) ?_
    refine z_pc (pc' := 25) rfl ?_
    refine z_puti (c := 1) (k := 7) (g := 135) z_cb1 (Nat.le_of_ble_eq_true rfl) (Nat.le_of_ble_eq_true rfl) (Nat.le_of_ble_eq_true rfl) rfl rfl rfl zw_433 rfl ha (Or.inl rfl) dX1_hear_25 ?_
    refine z_nm (fun M_34 g_34 => ?_)
    replace hP := hP M_34 g_34
    have q_34 := z_k1 g_34
    have ha := z_kk q_34 ha
    have k17 := z_kk q_34 k17
    refine z_goto (tgt := 134) dX1_hear_28 (by decide) ?_
    exact z_retv rfl dX1_hear_134 hP
set_option maxRecDepth 100000 in
set_option maxHeartbeats 4000000 in
theorem s_X1_hear {G : z_G} {M : z_Mem} {a : Nat} {p1 : Option Nat} {Post : z_Mem → Prop} (ha : z_ki M a = 2) (f_p1 : z_tr M p1 5) (hP : P_X1_hear a p1 M Post) : z_Mt G Y_X1_hear M [z_O (some a), z_O p1] (z_PV Post) := by
  refine z_ofV (by decide) (Nat.le_of_ble_eq_true rfl) ?_
  unfold P_X1_hear at hP
  refine z_sub (lv' := [(0, z_O (some a)), (1, z_O p1)]) [0, 1] rfl ?_
  refine z_aload_n dX1_hear_0 rfl 0 rfl ?_
  refine z_geti (c := 1) (k := 7) (g := 135) z_cb1 (Nat.le_of_ble_eq_true rfl) (Nat.le_of_ble_eq_true rfl) rfl (Nat.le_of_ble_eq_true rfl) zw_433 rfl ha dX1_hear_1 ?_
  refine z_iconst (v := 1) dX1_hear_4 (by decide) ?_
  refine z_icmp_ne (tgt := 12) dX1_hear_5 (by decide) (fun h36 => ?_) (fun h36 => ?_)
  · replace hP := hP.2 h36
    refine z_iconst (v := 0) dX1_hear_12 (by decide) ?_
    refine z_sub (lv' := [(0, z_O _), (1, z_O _)]) [0, 1] rfl ?_
    exact v_X1_hear_13  ha f_p1 (Or.inl rfl) hP
  · replace hP := hP.1 h36
    refine z_iconst (v := 1) dX1_hear_8 (by decide) ?_
    refine z_goto (tgt := 13) dX1_hear_9 (by decide) ?_
    refine z_sub (lv' := [(0, z_O _), (1, z_O _)]) [0, 1] rfl ?_
    exact v_X1_hear_13  ha f_p1 (Or.inr rfl) hP
def P_X1_hearAll_69 (a : Nat) (Post : z_Mem → Prop) (J11 : Int32 → z_Mem → Prop) (x1 : Int32) (M : z_Mem) : Prop := ∀ x_1 : Int32, x_1 = x1 + (-1) → (J11 x_1 M)
def P_X1_hearAll_64 (a : Nat) (Post : z_Mem → Prop) (J11 : Int32 → z_Mem → Prop) (x1 : Int32) (x2 : Option Nat) (M : z_Mem) : Prop := P_X1_hear a x2 M fun M_2 => (P_X1_hearAll_69 a Post J11 x1 M_2)
set_option maxRecDepth 100000 in
def P_X1_hearAll_11 (a : Nat) (Post : z_Mem → Prop)  : Nat → Int32 → z_Mem → Prop
  | 0, _, _ => False
  | n + 1, x1, M => ((x1 ≤ 0 → Post M) ∧ (¬ x1 ≤ 0 → z_nn (z_fr M 128 a) fun a5 => (z_nn (z_fr M 128 a) fun a8 => (z_nn (z_fr M 643 a5) fun a11 => (P_X10_takeDue a11 (z_fi M 645 a8) M fun x_10 M_10 => (((x_10 = none → Post M_10) ∧ (∀ a12 : Nat, x_10 = some a12 → (((z_fi M_10 135 a) = 1 → P_X1_hearAll_64 a Post (fun q0 qM => P_X1_hearAll_11 a Post n q0 qM) x1 x_10 M_10) ∧ (¬ (z_fi M_10 135 a) = 1 → (((z_fi M_10 135 a) = 2 → P_X1_hearAll_64 a Post (fun q0 qM => P_X1_hearAll_11 a Post n q0 qM) x1 x_10 M_10) ∧ (¬ (z_fi M_10 135 a) = 2 → (((z_fi M_10 135 a) = 3 → P_X1_hearAll_64 a Post (fun q0 qM => P_X1_hearAll_11 a Post n q0 qM) x1 x_10 M_10) ∧ (¬ (z_fi M_10 135 a) = 3 → P_X1_hearAll_69 a Post (fun q0 qM => P_X1_hearAll_11 a Post n q0 qM) x1 M_10))))))))))))))
set_option maxRecDepth 100000 in
def P_X1_hearAll (a : Nat) (M : z_Mem) (Post : z_Mem → Prop) : Prop := z_nn (z_fr M 128 a) fun a20 => (z_nn (z_fr M 643 a20) fun a22 => (∀ x_24 : Int32, x_24 = (z_fi M 1281 a22) → ((∃ n25 : Nat, P_X1_hearAll_11 a Post n25 x_24 M))))
set_option maxRecDepth 100000 in
set_option maxHeartbeats 4000000 in
theorem v_X1_hearAll_69 {G : z_G} {M0 : z_Mem} {a : Nat} {Post : z_Mem → Prop} {J11 : Int32 → z_Mem → Prop} (hJ11 : ∀ (x1 : Int32) (M : z_Mem), (z_ki M a = 2) → J11 x1 M → z_V G Y_X1_hearAll z_X0 M0 (z_QM G M0 (z_PV Post)) M 11 [(0, z_O (some a)), (1, z_I x1)] []) {x1 : Int32} {M : z_Mem} (ha : z_ki M a = 2) (hP : P_X1_hearAll_69 a Post J11 x1 M) : z_V G Y_X1_hearAll z_X0 M0 (z_QM G M0 (z_PV Post)) M 69 [(0, z_O (some a)), (1, z_I x1)] [] := by
  unfold P_X1_hearAll_69 at hP
  refine z_iincN (j := 1) (m := (-1)) (lv' := fun v => [(1, z_I v), (0, z_O _)]) dX1_hearAll_69 rfl (by decide) (Nat.le_of_ble_eq_true rfl) (fun _ => rfl) (fun x_1 y_1 => ?_)
  replace hP := hP x_1 y_1
  refine z_goto (tgt := 11) dX1_hearAll_72 (by decide) ?_
  refine z_sub (lv' := [(0, z_O _), (1, z_I _)]) [1, 0] rfl ?_
  exact hJ11 _ _ ha hP
set_option maxRecDepth 100000 in
set_option maxHeartbeats 4000000 in
theorem v_X1_hearAll_64 {G : z_G} {M0 : z_Mem} {a : Nat} {Post : z_Mem → Prop} {J11 : Int32 → z_Mem → Prop} (hJ11 : ∀ (x1 : Int32) (M : z_Mem), (z_ki M a = 2) → J11 x1 M → z_V G Y_X1_hearAll z_X0 M0 (z_QM G M0 (z_PV Post)) M 11 [(0, z_O (some a)), (1, z_I x1)] []) {x1 : Int32} {x2 : Option Nat} {M : z_Mem} (ha : z_ki M a = 2) (f_x2 : z_tr M x2 5) (hP : P_X1_hearAll_64 a Post J11 x1 x2 M) : z_V G Y_X1_hearAll z_X0 M0 (z_QM G M0 (z_PV Post)) M 64 [(0, z_O (some a)), (1, z_I x1), (2, z_O x2)] [] := by
  unfold P_X1_hearAll_64 at hP
  refine z_aload_n dX1_hearAll_64 rfl 0 rfl ?_
  refine z_aload_n dX1_hearAll_65 rfl 2 rfl ?_
  refine z_wts (fun hT2 _ => ?_)
  refine z_cVv (c := 1) (n := 1) (Y1 := Y_X1_hear) (st := []) rfl ha z_cb1 (Nat.le_of_ble_eq_true rfl) rfl (s_X1_hear ha f_x2 hP) rfl ⟨z_dc_X1_hear, ⟨(Nat.le_of_ble_eq_true rfl), (Nat.le_of_ble_eq_true rfl)⟩, (Nat.le_of_ble_eq_true rfl)⟩ rfl zw_925 zw_927 zp_11 zw_9 zw_928 dX1_hearAll_66 (fun M_2 hP _ x2 => ?_)
  have ha := x2.k (k := 1) hT2 ha
  have f_x2 := x2.t (k := 4) hT2 f_x2
  refine z_sub (lv' := [(0, z_O _), (1, z_I _)]) [0, 1] rfl ?_
  exact v_X1_hearAll_69 hJ11 ha hP
set_option maxRecDepth 100000 in
set_option maxHeartbeats 4000000 in
theorem v_X1_hearAll_11 {G : z_G} {M0 : z_Mem} {a : Nat} {Post : z_Mem → Prop}   : ∀ (n : Nat) {x1 : Int32} {M : z_Mem}, (z_ki M a = 2) → P_X1_hearAll_11 a Post n x1 M → z_V G Y_X1_hearAll z_X0 M0 (z_QM G M0 (z_PV Post)) M 11 [(0, z_O (some a)), (1, z_I x1)] [] := by
  intro n
  induction n with
  | zero => intro x1 M ha hP; exact False.elim hP
  | succ n ih =>
    intro x1 M ha hP
    unfold P_X1_hearAll_11 at hP
    refine z_iload_n dX1_hearAll_11 rfl 1 rfl ?_
    refine z_if_le (tgt := 75) dX1_hearAll_12 (by decide) (fun h3 => ?_) (fun h3 => ?_)
    · replace hP := hP.1 h3
      exact z_retv rfl dX1_hearAll_75 hP
    · replace hP := hP.2 h3
      refine z_aload_n dX1_hearAll_15 rfl 0 rfl ?_
      refine z_getr (c := 1) (k := 0) (g := 128) (t := 6) z_cb1 (Nat.le_of_ble_eq_true rfl) (Nat.le_of_ble_eq_true rfl) rfl rfl zw_425 rfl ha dX1_hearAll_16 (fun f4 => ?_)
      obtain ⟨a5, e5, hP⟩ := hP
      have k5 := f4 a5 e5
      refine z_getr (c := 5) (k := 3) (g := 643) (t := 11) z_cb5 (Nat.le_of_ble_eq_true rfl) (Nat.le_of_ble_eq_true rfl) rfl rfl zw_162 e5 k5 dX1_hearAll_19 (fun f6 => ?_)
      refine z_aload_n dX1_hearAll_22 rfl 0 rfl ?_
      refine z_getr (c := 1) (k := 0) (g := 128) (t := 6) z_cb1 (Nat.le_of_ble_eq_true rfl) (Nat.le_of_ble_eq_true rfl) rfl rfl zw_425 rfl ha dX1_hearAll_23 (fun f7 => ?_)
      refine z_pc (pc' := 26) rfl ?_
      obtain ⟨a8, e8, hP⟩ := hP
      have k8 := f7 a8 e8
      refine z_geti (c := 5) (k := 5) (g := 645) z_cb5 (Nat.le_of_ble_eq_true rfl) (Nat.le_of_ble_eq_true rfl) rfl (Nat.le_of_ble_eq_true rfl) zw_166 e8 k8 dX1_hearAll_26 ?_
      obtain ⟨a11, e11, hP⟩ := hP
      have k11 := f6 a11 e11
      refine z_wts (fun hT10 _ => ?_)
      refine z_cVo (c := 10) (n := 1) (Y1 := Y_X10_takeDue) (st := []) e11 k11 z_cb10 (Nat.le_of_ble_eq_true rfl) rfl (s_X10_takeDue k11 hP) rfl ⟨z_dc_X10_takeDue, ⟨(Nat.le_of_ble_eq_true rfl), (Nat.le_of_ble_eq_true rfl)⟩, (Nat.le_of_ble_eq_true rfl)⟩ rfl zw_924 zw_879 zw_880 zw_4 zw_881 dX1_hearAll_29 (fun x_10 M_10 f10 hP _ x10 => ?_)
      have ha := x10.k (k := 1) hT10 ha
      refine z_astore_n (lv' := [(2, z_O _), (0, z_O _), (1, z_I _)]) dX1_hearAll_32 rfl (Nat.le_of_ble_eq_true rfl) rfl ?_
      refine z_aload_n dX1_hearAll_33 rfl 0 rfl ?_
      refine z_ifnonnull (tgt := 40) dX1_hearAll_34 (by decide) (fun h12 => ?_) (fun a12 e12 => ?_)
      · replace hP := hP.1 h12
        refine z_goto (tgt := 75) dX1_hearAll_37 (by decide) ?_
        exact z_retv rfl dX1_hearAll_75 hP
      · replace hP := hP.2 a12 e12
        have k12 := f10 a12 e12
        refine z_aload_n dX1_hearAll_40 rfl 1 rfl ?_
        refine z_geti (c := 1) (k := 7) (g := 135) z_cb1 (Nat.le_of_ble_eq_true rfl) (Nat.le_of_ble_eq_true rfl) rfl (Nat.le_of_ble_eq_true rfl) zw_433 rfl ha dX1_hearAll_41 ?_
        refine z_pc (pc' := 44) rfl ?_
        refine z_iconst (v := 1) dX1_hearAll_44 (by decide) ?_
        refine z_icmp_eq (tgt := 64) dX1_hearAll_45 (by decide) (fun h14 => ?_) (fun h14 => ?_)
        · replace hP := hP.1 h14
          refine z_sub (lv' := [(0, z_O _), (1, z_I _), (2, z_O _)]) [1, 2, 0] rfl ?_
          exact v_X1_hearAll_64 (fun _ _ w0 hP => ih w0 hP) ha (z_trn e12 k12) hP
        · replace hP := hP.2 h14
          refine z_aload_n dX1_hearAll_48 rfl 1 rfl ?_
          refine z_geti (c := 1) (k := 7) (g := 135) z_cb1 (Nat.le_of_ble_eq_true rfl) (Nat.le_of_ble_eq_true rfl) rfl (Nat.le_of_ble_eq_true rfl) zw_433 rfl ha dX1_hearAll_49 ?_
          refine z_iconst (v := 2) dX1_hearAll_52 (by decide) ?_
          refine z_icmp_eq (tgt := 64) dX1_hearAll_53 (by decide) (fun h16 => ?_) (fun h16 => ?_)
          · replace hP := hP.1 h16
            refine z_sub (lv' := [(0, z_O _), (1, z_I _), (2, z_O _)]) [1, 2, 0] rfl ?_
            exact v_X1_hearAll_64 (fun _ _ w0 hP => ih w0 hP) ha (z_trn e12 k12) hP
          · replace hP := hP.2 h16
            refine z_aload_n dX1_hearAll_56 rfl 1 rfl ?_
            refine z_geti (c := 1) (k := 7) (g := 135) z_cb1 (Nat.le_of_ble_eq_true rfl) (Nat.le_of_ble_eq_true rfl) rfl (Nat.le_of_ble_eq_true rfl) zw_433 rfl ha dX1_hearAll_57 ?_
            refine z_pc (pc' := 60) rfl ?_
            refine z_iconst (v := 3) dX1_hearAll_60 (by decide) ?_
            refine z_icmp_ne (tgt := 69) dX1_hearAll_61 (by decide) (fun h18 => ?_) (fun h18 => ?_)
            · replace hP := hP.2 h18
              refine z_sub (lv' := [(0, z_O _), (1, z_I _)]) [1, 2] rfl ?_
              exact v_X1_hearAll_69 (fun _ _ w0 hP => ih w0 hP) ha hP
            · replace hP := hP.1 h18
              refine z_sub (lv' := [(0, z_O _), (1, z_I _), (2, z_O _)]) [1, 2, 0] rfl ?_
              exact v_X1_hearAll_64 (fun _ _ w0 hP => ih w0 hP) ha (z_trn e12 k12) hP
set_option maxRecDepth 100000 in
set_option maxHeartbeats 4000000 in
theorem s_X1_hearAll {G : z_G} {M : z_Mem} {a : Nat} {Post : z_Mem → Prop} (ha : z_ki M a = 2) (hP : P_X1_hearAll a M Post) : z_Mt G Y_X1_hearAll M [z_O (some a)] (z_PV Post) := by
  refine z_ofV (by decide) (Nat.le_of_ble_eq_true rfl) ?_
  unfold P_X1_hearAll at hP
  refine z_sub (lv' := [(0, z_O (some a))]) [0] rfl ?_
  refine z_aload_n dX1_hearAll_0 rfl 0 rfl ?_
  refine z_getr (c := 1) (k := 0) (g := 128) (t := 6) z_cb1 (Nat.le_of_ble_eq_true rfl) (Nat.le_of_ble_eq_true rfl) rfl rfl zw_425 rfl ha dX1_hearAll_1 (fun f19 => ?_)
  obtain ⟨a20, e20, hP⟩ := hP
  have k20 := f19 a20 e20
  refine z_getr (c := 5) (k := 3) (g := 643) (t := 11) z_cb5 (Nat.le_of_ble_eq_true rfl) (Nat.le_of_ble_eq_true rfl) rfl rfl zw_162 e20 k20 dX1_hearAll_4 (fun f21 => ?_)
  obtain ⟨a22, e22, hP⟩ := hP
  have k22 := f21 a22 e22
  refine z_geti (c := 10) (k := 1) (g := 1281) z_cb10 (Nat.le_of_ble_eq_true rfl) (Nat.le_of_ble_eq_true rfl) rfl (Nat.le_of_ble_eq_true rfl) zw_108 e22 k22 dX1_hearAll_7 ?_
  refine z_topi (fun x_24 y_24 => ?_)
  replace hP := hP x_24 y_24
  refine z_istore_n (lv' := [(1, z_I _), (0, z_O _)]) dX1_hearAll_10 rfl (Nat.le_of_ble_eq_true rfl) rfl ?_
  obtain ⟨n25, hP⟩ := hP
  refine z_sub (lv' := [(0, z_O _), (1, z_I _)]) [1, 0] rfl ?_
  exact v_X1_hearAll_11  n25 ha hP
set_option maxRecDepth 100000 in
def P_X7_isProbeDue (a : Nat) (p1 : Int32) (M : z_Mem) (Post : Int32 → z_Mem → Prop) : Prop := ∀ x_3 : Int32, x_3 = ((((z_fi M 900 a) / 8) + ((if 1 < (z_fi M 901 a) then (z_fi M 901 a) else 1) : Int32)) + 3) → ((((z_fi M 899 a) ≤ 0 → Post 0 M) ∧ (¬ (z_fi M 899 a) ≤ 0 → (((p1 - (z_fi M 908 a)) < (x_3 <<< (((if 6 < (z_fi M 910 a) then 6 else (z_fi M 910 a)) : Int32) &&& 31)) → Post 0 M) ∧ (¬ (p1 - (z_fi M 908 a)) < (x_3 <<< (((if 6 < (z_fi M 910 a) then 6 else (z_fi M 910 a)) : Int32) &&& 31)) → Post 1 M)))))
set_option maxRecDepth 100000 in
set_option maxHeartbeats 4000000 in
theorem s_X7_isProbeDue {G : z_G} {M : z_Mem} {a : Nat} {p1 : Int32} {Post : Int32 → z_Mem → Prop} (ha : z_ki M a = 8) (hP : P_X7_isProbeDue a p1 M Post) : z_Mt G Y_X7_isProbeDue M [z_O (some a), z_I p1] (z_PB Post) := by
  refine z_ofV (by decide) (Nat.le_of_ble_eq_true rfl) ?_
  unfold P_X7_isProbeDue at hP
  refine z_sub (lv' := [(0, z_O (some a)), (1, z_I p1)]) [0, 1] rfl ?_
  refine z_aload_n dX7_isProbeDue_0 rfl 0 rfl ?_
  refine z_geti (c := 7) (k := 4) (g := 900) z_cb7 (Nat.le_of_ble_eq_true rfl) (Nat.le_of_ble_eq_true rfl) rfl (Nat.le_of_ble_eq_true rfl) zw_360 rfl ha dX7_isProbeDue_1 ?_
  refine z_bipush (v := 8) dX7_isProbeDue_4 (by decide) ?_
  refine z_idiv dX7_isProbeDue_6 (by decide) ?_
  refine z_iconst (v := 1) dX7_isProbeDue_7 (by decide) ?_
  refine z_aload_n dX7_isProbeDue_8 rfl 0 rfl ?_
  refine z_pc (pc' := 9) rfl ?_
  refine z_geti (c := 7) (k := 5) (g := 901) z_cb7 (Nat.le_of_ble_eq_true rfl) (Nat.le_of_ble_eq_true rfl) rfl (Nat.le_of_ble_eq_true rfl) zw_362 rfl ha dX7_isProbeDue_9 ?_
  refine z_mmax zw_1031 zw_102 zw_5 zw_103 dX7_isProbeDue_12 (Nat.le_of_ble_eq_true rfl) (Nat.le_of_ble_eq_true rfl) ?_
  refine z_iadd dX7_isProbeDue_15 ?_
  refine z_iconst (v := 3) dX7_isProbeDue_16 (by decide) ?_
  refine z_iadd dX7_isProbeDue_17 ?_
  refine z_topi (fun x_3 y_3 => ?_)
  replace hP := hP x_3 y_3
  refine z_istore_n (lv' := [(2, z_I _), (0, z_O _), (1, z_I _)]) dX7_isProbeDue_18 rfl (Nat.le_of_ble_eq_true rfl) rfl ?_
  refine z_pc (pc' := 19) rfl ?_
  refine z_aload_n dX7_isProbeDue_19 rfl 1 rfl ?_
  refine z_geti (c := 7) (k := 3) (g := 899) z_cb7 (Nat.le_of_ble_eq_true rfl) (Nat.le_of_ble_eq_true rfl) rfl (Nat.le_of_ble_eq_true rfl) zw_357 rfl ha dX7_isProbeDue_20 ?_
  refine z_if_le (tgt := 50) dX7_isProbeDue_23 (by decide) (fun h5 => ?_) (fun h5 => ?_)
  · replace hP := hP.1 h5
    refine z_iconst (v := 0) dX7_isProbeDue_50 (by decide) ?_
    exact z_retb rfl (Or.inl rfl) dX7_isProbeDue_51 hP
  · replace hP := hP.2 h5
    refine z_iload_n dX7_isProbeDue_26 rfl 2 rfl ?_
    refine z_aload_n dX7_isProbeDue_27 rfl 1 rfl ?_
    refine z_geti (c := 7) (k := 12) (g := 908) z_cb7 (Nat.le_of_ble_eq_true rfl) (Nat.le_of_ble_eq_true rfl) rfl (Nat.le_of_ble_eq_true rfl) zw_374 rfl ha dX7_isProbeDue_28 ?_
    refine z_isub dX7_isProbeDue_31 ?_
    refine z_pc (pc' := 32) rfl ?_
    refine z_iload_n dX7_isProbeDue_32 rfl 0 rfl ?_
    refine z_aload_n dX7_isProbeDue_33 rfl 1 rfl ?_
    refine z_geti (c := 7) (k := 14) (g := 910) z_cb7 (Nat.le_of_ble_eq_true rfl) (Nat.le_of_ble_eq_true rfl) rfl (Nat.le_of_ble_eq_true rfl) zw_378 rfl ha dX7_isProbeDue_34 ?_
    refine z_bipush (v := 6) dX7_isProbeDue_37 (by decide) ?_
    refine z_mmin zw_938 zw_692 zw_5 zw_693 dX7_isProbeDue_39 (Nat.le_of_ble_eq_true rfl) (Nat.le_of_ble_eq_true rfl) ?_
    refine z_ishl dX7_isProbeDue_42 ?_
    refine z_pc (pc' := 43) rfl ?_
    refine z_icmp_lt (tgt := 50) dX7_isProbeDue_43 (by decide) (fun h8 => ?_) (fun h8 => ?_)
    · replace hP := hP.1 h8
      refine z_iconst (v := 0) dX7_isProbeDue_50 (by decide) ?_
      exact z_retb rfl (Or.inl rfl) dX7_isProbeDue_51 hP
    · replace hP := hP.2 h8
      refine z_iconst (v := 1) dX7_isProbeDue_46 (by decide) ?_
      refine z_goto (tgt := 51) dX7_isProbeDue_47 (by decide) ?_
      exact z_retb rfl (Or.inr rfl) dX7_isProbeDue_51 hP
set_option maxRecDepth 100000 in
def P_X6_init (a : Nat) (p1 : Int32) (p2 : Int32) (p3 : Int32) (p4 : Int32) (p5 : Int32) (p6 : Int32) (M : z_Mem) (Post : z_Mem → Prop) : Prop := ∀ M_1 : z_Mem, M_1 = z_sfi M 778 a 0 → (∀ M_2 : z_Mem, M_2 = z_sfi M_1 768 a p1 → (∀ M_3 : z_Mem, M_3 = z_sfi M_2 769 a p2 → (∀ M_4 : z_Mem, M_4 = z_sfi M_3 770 a p3 → (∀ M_5 : z_Mem, M_5 = z_sfi M_4 771 a p4 → (∀ M_6 : z_Mem, M_6 = z_sfi M_5 772 a p5 → (∀ M_7 : z_Mem, M_7 = z_sfi M_6 773 a p6 → (Post M_7)))))))
set_option maxRecDepth 100000 in
set_option maxHeartbeats 4000000 in
theorem s_X6_init {G : z_G} {M : z_Mem} {a : Nat} {p1 : Int32} {p2 : Int32} {p3 : Int32} {p4 : Int32} {p5 : Int32} {p6 : Int32} {Post : z_Mem → Prop} (ha : z_ki M a = 7) (hP : P_X6_init a p1 p2 p3 p4 p5 p6 M Post) : z_Mt G Y_X6_init M [z_O (some a), z_I p1, z_I p2, z_I p3, z_I p4, z_I p5, z_I p6] (z_PV Post) := by
  refine z_ofV (by decide) (Nat.le_of_ble_eq_true rfl) ?_
  unfold P_X6_init at hP
  refine z_sub (lv' := [(0, z_O (some a)), (1, z_I p1), (2, z_I p2), (3, z_I p3), (4, z_I p4), (5, z_I p5), (6, z_I p6)]) [0, 1, 2, 3, 4, 5, 6] rfl ?_
  refine z_aload_n dX6_init_0 rfl 0 rfl ?_
  refine z_objInit rfl zw_1056 zw_28 zw_29 dX6_init_1 (Nat.le_of_ble_eq_true rfl) (Nat.le_of_ble_eq_true rfl) ?_
  refine z_aload_n dX6_init_4 rfl 0 rfl ?_
  refine z_iconst (v := 0) dX6_init_5 (by decide) ?_
  refine z_puti (c := 6) (k := 10) (g := 778) z_cb6 (Nat.le_of_ble_eq_true rfl) (Nat.le_of_ble_eq_true rfl) (Nat.le_of_ble_eq_true rfl) rfl rfl rfl zw_1091 rfl ha (Or.inl rfl) dX6_init_6 ?_
  refine z_nm (fun M_1 g_1 => ?_)
  replace hP := hP M_1 g_1
  have q_1 := z_k1 g_1
  have ha := z_kk q_1 ha
  refine z_aload_n dX6_init_9 rfl 0 rfl ?_
  refine z_pc (pc' := 10) rfl ?_
  refine z_iload_n dX6_init_10 rfl 1 rfl ?_
  refine z_puti (c := 6) (k := 0) (g := 768) z_cb6 (Nat.le_of_ble_eq_true rfl) (Nat.le_of_ble_eq_true rfl) (Nat.le_of_ble_eq_true rfl) rfl rfl rfl zw_1057 rfl ha (Or.inr ⟨rfl, rfl, rfl⟩) dX6_init_11 ?_
  refine z_nm (fun M_2 g_2 => ?_)
  replace hP := hP M_2 g_2
  have q_2 := z_k1 g_2
  have ha := z_kk q_2 ha
  refine z_aload_n dX6_init_14 rfl 0 rfl ?_
  refine z_iload_n dX6_init_15 rfl 2 rfl ?_
  refine z_puti (c := 6) (k := 1) (g := 769) z_cb6 (Nat.le_of_ble_eq_true rfl) (Nat.le_of_ble_eq_true rfl) (Nat.le_of_ble_eq_true rfl) rfl rfl rfl zw_1060 rfl ha (Or.inr ⟨rfl, rfl, rfl⟩) dX6_init_16 ?_
  refine z_nm (fun M_3 g_3 => ?_)
  replace hP := hP M_3 g_3
  have q_3 := z_k1 g_3
  have ha := z_kk q_3 ha
  refine z_aload_n dX6_init_19 rfl 0 rfl ?_
  refine z_pc (pc' := 20) rfl ?_
  refine z_iload_n dX6_init_20 rfl 3 rfl ?_
  refine z_puti (c := 6) (k := 2) (g := 770) z_cb6 (Nat.le_of_ble_eq_true rfl) (Nat.le_of_ble_eq_true rfl) (Nat.le_of_ble_eq_true rfl) rfl rfl rfl zw_1063 rfl ha (Or.inr ⟨rfl, rfl, rfl⟩) dX6_init_21 ?_
  refine z_nm (fun M_4 g_4 => ?_)
  replace hP := hP M_4 g_4
  have q_4 := z_k1 g_4
  have ha := z_kk q_4 ha
  refine z_aload_n dX6_init_24 rfl 0 rfl ?_
  refine z_iload dX6_init_25 4 rfl ?_
  refine z_puti (c := 6) (k := 3) (g := 771) z_cb6 (Nat.le_of_ble_eq_true rfl) (Nat.le_of_ble_eq_true rfl) (Nat.le_of_ble_eq_true rfl) rfl rfl rfl zw_1067 rfl ha (Or.inr ⟨rfl, rfl, rfl⟩) dX6_init_27 ?_
  refine z_nm (fun M_5 g_5 => ?_)
  replace hP := hP M_5 g_5
  have q_5 := z_k1 g_5
  have ha := z_kk q_5 ha
  refine z_aload_n dX6_init_30 rfl 0 rfl ?_
  refine z_pc (pc' := 31) rfl ?_
  refine z_iload dX6_init_31 5 rfl ?_
  refine z_puti (c := 6) (k := 4) (g := 772) z_cb6 (Nat.le_of_ble_eq_true rfl) (Nat.le_of_ble_eq_true rfl) (Nat.le_of_ble_eq_true rfl) rfl rfl rfl zw_1071 rfl ha (Or.inr ⟨rfl, rfl, rfl⟩) dX6_init_33 ?_
  refine z_nm (fun M_6 g_6 => ?_)
  replace hP := hP M_6 g_6
  have q_6 := z_k1 g_6
  have ha := z_kk q_6 ha
  refine z_aload_n dX6_init_36 rfl 0 rfl ?_
  refine z_iload dX6_init_37 6 rfl ?_
  refine z_puti (c := 6) (k := 5) (g := 773) z_cb6 (Nat.le_of_ble_eq_true rfl) (Nat.le_of_ble_eq_true rfl) (Nat.le_of_ble_eq_true rfl) rfl rfl rfl zw_1075 rfl ha (Or.inr ⟨rfl, rfl, rfl⟩) dX6_init_39 ?_
  refine z_nm (fun M_7 g_7 => ?_)
  replace hP := hP M_7 g_7
  have q_7 := z_k1 g_7
  have ha := z_kk q_7 ha
  exact z_retv rfl dX6_init_42 hP
def P_X9_takeOff_38 (a : Nat) (Post : z_Mem → Prop) (J6 : Int32 → Int32 → Int32 → z_Mem → Prop) (x1 : Int32) (x2 : Int32) (x3 : Int32) (M : z_Mem) : Prop := z_nn (z_fr M 1160 a) fun a2 => (vp_in x3 (z_ln M a2) ∧ (vp_in x3 (z_ln M a2) ∧ (∀ M_5 : z_Mem, M_5 = z_sai M a2 ((x3 : Int32).toNatClampNeg) ((z_ai M a2 ((x3 : Int32).toNatClampNeg)) + 1) → (∀ x_6 : Int32, x_6 = x3 + 1 → (J6 x1 x2 x_6 M_5)))))
set_option maxRecDepth 100000 in
def P_X9_takeOff_6 (a : Nat) (Post : z_Mem → Prop)  : Nat → Int32 → Int32 → Int32 → z_Mem → Prop
  | 0, _, _, _, _ => False
  | n + 1, x1, x2, x3, M => (((x1 + x2) ≤ x3 → ∀ M_9 : z_Mem, M_9 = z_sfi M 1153 a ((if (z_fi M 1153 a) < (x1 + x2) then (x1 + x2) else (z_fi M 1153 a)) : Int32) → (Post M_9)) ∧ (¬ (x1 + x2) ≤ x3 → ((200 ≤ x3 → ∀ M_12 : z_Mem, M_12 = z_sfi M 1153 a ((if (z_fi M 1153 a) < (x1 + x2) then (x1 + x2) else (z_fi M 1153 a)) : Int32) → (Post M_12)) ∧ (¬ 200 ≤ x3 → P_X9_isLost a x3 M fun x_13 M_13 => (((x_13 = 0 → P_X9_takeOff_38 a Post (fun q0 q1 q2 qM => P_X9_takeOff_6 a Post n q0 q1 q2 qM) x1 x2 x3 M_13) ∧ (¬ x_13 = 0 → ∀ M_16 : z_Mem, M_16 = z_sfi M_13 1155 a ((z_fi M_13 1155 a) - 1) → (P_X9_takeOff_38 a Post (fun q0 q1 q2 qM => P_X9_takeOff_6 a Post n q0 q1 q2 qM) x1 x2 x3 M_16))))))))
set_option maxRecDepth 100000 in
def P_X9_takeOff (a : Nat) (p1 : Int32) (p2 : Int32) (M : z_Mem) (Post : z_Mem → Prop) : Prop := ∀ x_17 : Int32, x_17 = ((if 0 < p1 then p1 else 0) : Int32) → ((∃ n18 : Nat, P_X9_takeOff_6 a Post n18 p1 p2 x_17 M))
set_option maxRecDepth 100000 in
set_option maxHeartbeats 4000000 in
theorem v_X9_takeOff_38 {G : z_G} {M0 : z_Mem} {a : Nat} {Post : z_Mem → Prop} {J6 : Int32 → Int32 → Int32 → z_Mem → Prop} (hJ6 : ∀ (x1 : Int32) (x2 : Int32) (x3 : Int32) (M : z_Mem), (z_ki M a = 10) → J6 x1 x2 x3 M → z_V G Y_X9_takeOff z_X0 M0 (z_QM G M0 (z_PV Post)) M 6 [(0, z_O (some a)), (1, z_I x1), (2, z_I x2), (3, z_I x3)] []) {x1 : Int32} {x2 : Int32} {x3 : Int32} {M : z_Mem} (ha : z_ki M a = 10) (hP : P_X9_takeOff_38 a Post J6 x1 x2 x3 M) : z_V G Y_X9_takeOff z_X0 M0 (z_QM G M0 (z_PV Post)) M 38 [(0, z_O (some a)), (1, z_I x1), (2, z_I x2), (3, z_I x3)] [] := by
  unfold P_X9_takeOff_38 at hP
  refine z_aload_n dX9_takeOff_38 rfl 0 rfl ?_
  refine z_getr (c := 9) (k := 8) (g := 1160) (t := 20) z_cb9 (Nat.le_of_ble_eq_true rfl) (Nat.le_of_ble_eq_true rfl) rfl rfl zw_207 rfl ha dX9_takeOff_39 (fun f1 => ?_)
  refine z_iload_n dX9_takeOff_42 rfl 3 rfl ?_
  refine z_dup2 dX9_takeOff_43 rfl rfl ?_
  obtain ⟨a2, e2, hP⟩ := hP
  have k2 := f1 a2 e2
  obtain ⟨i3, hP⟩ := hP
  refine z_iald e2 k2 i3 dX9_takeOff_44 ?_
  refine z_iconst (v := 1) dX9_takeOff_45 (by decide) ?_
  refine z_pc (pc' := 46) rfl ?_
  refine z_iadd dX9_takeOff_46 ?_
  obtain ⟨i4, hP⟩ := hP
  refine z_iast e2 k2 i4 dX9_takeOff_47 ?_
  refine z_nm (fun M_5 g_5 => ?_)
  replace hP := hP M_5 g_5
  have q_5 := z_k3 g_5
  have ha := z_kk q_5 ha
  refine z_iincN (j := 3) (m := 1) (lv' := fun v => [(3, z_I v), (0, z_O _), (1, z_I _), (2, z_I _)]) dX9_takeOff_48 rfl (by decide) (Nat.le_of_ble_eq_true rfl) (fun _ => rfl) (fun x_6 y_6 => ?_)
  replace hP := hP x_6 y_6
  refine z_goto (tgt := 6) dX9_takeOff_51 (by decide) ?_
  refine z_sub (lv' := [(0, z_O _), (1, z_I _), (2, z_I _), (3, z_I _)]) [1, 2, 3, 0] rfl ?_
  exact hJ6 _ _ _ _ ha hP
set_option maxRecDepth 100000 in
set_option maxHeartbeats 4000000 in
theorem v_X9_takeOff_6 {G : z_G} {M0 : z_Mem} {a : Nat} {Post : z_Mem → Prop}   : ∀ (n : Nat) {x1 : Int32} {x2 : Int32} {x3 : Int32} {M : z_Mem}, (z_ki M a = 10) → P_X9_takeOff_6 a Post n x1 x2 x3 M → z_V G Y_X9_takeOff z_X0 M0 (z_QM G M0 (z_PV Post)) M 6 [(0, z_O (some a)), (1, z_I x1), (2, z_I x2), (3, z_I x3)] [] := by
  intro n
  induction n with
  | zero => intro x1 x2 x3 M ha hP; exact False.elim hP
  | succ n ih =>
    intro x1 x2 x3 M ha hP
    unfold P_X9_takeOff_6 at hP
    refine z_iload_n dX9_takeOff_6 rfl 3 rfl ?_
    refine z_iload_n dX9_takeOff_7 rfl 1 rfl ?_
    refine z_iload_n dX9_takeOff_8 rfl 2 rfl ?_
    refine z_iadd dX9_takeOff_9 ?_
    refine z_icmp_ge (tgt := 54) dX9_takeOff_10 (by decide) (fun h7 => ?_) (fun h7 => ?_)
    · replace hP := hP.1 h7
      refine z_aload_n dX9_takeOff_54 rfl 0 rfl ?_
      refine z_aload_n dX9_takeOff_55 rfl 0 rfl ?_
      refine z_pc (pc' := 56) rfl ?_
      refine z_geti (c := 9) (k := 1) (g := 1153) z_cb9 (Nat.le_of_ble_eq_true rfl) (Nat.le_of_ble_eq_true rfl) rfl (Nat.le_of_ble_eq_true rfl) zw_190 rfl ha dX9_takeOff_56 ?_
      refine z_iload_n dX9_takeOff_59 rfl 1 rfl ?_
      refine z_iload_n dX9_takeOff_60 rfl 2 rfl ?_
      refine z_iadd dX9_takeOff_61 ?_
      refine z_mmax zw_950 zw_102 zw_5 zw_103 dX9_takeOff_62 (Nat.le_of_ble_eq_true rfl) (Nat.le_of_ble_eq_true rfl) ?_
      refine z_puti (c := 9) (k := 1) (g := 1153) z_cb9 (Nat.le_of_ble_eq_true rfl) (Nat.le_of_ble_eq_true rfl) (Nat.le_of_ble_eq_true rfl) rfl rfl rfl zw_190 rfl ha (Or.inl rfl) dX9_takeOff_65 ?_
      refine z_nm (fun M_9 g_9 => ?_)
      replace hP := hP M_9 g_9
      have q_9 := z_k1 g_9
      have ha := z_kk q_9 ha
      refine z_pc (pc' := 68) rfl ?_
      exact z_retv rfl dX9_takeOff_68 hP
    · replace hP := hP.2 h7
      refine z_iload_n dX9_takeOff_13 rfl 3 rfl ?_
      refine z_sipush (v := 200) dX9_takeOff_14 (by decide) ?_
      refine z_pc (pc' := 17) rfl ?_
      refine z_icmp_ge (tgt := 54) dX9_takeOff_17 (by decide) (fun h10 => ?_) (fun h10 => ?_)
      · replace hP := hP.1 h10
        refine z_aload_n dX9_takeOff_54 rfl 0 rfl ?_
        refine z_aload_n dX9_takeOff_55 rfl 0 rfl ?_
        refine z_geti (c := 9) (k := 1) (g := 1153) z_cb9 (Nat.le_of_ble_eq_true rfl) (Nat.le_of_ble_eq_true rfl) rfl (Nat.le_of_ble_eq_true rfl) zw_190 rfl ha dX9_takeOff_56 ?_
        refine z_iload_n dX9_takeOff_59 rfl 1 rfl ?_
        refine z_iload_n dX9_takeOff_60 rfl 2 rfl ?_
        refine z_iadd dX9_takeOff_61 ?_
        refine z_pc (pc' := 62) rfl ?_
        refine z_mmax zw_950 zw_102 zw_5 zw_103 dX9_takeOff_62 (Nat.le_of_ble_eq_true rfl) (Nat.le_of_ble_eq_true rfl) ?_
        refine z_puti (c := 9) (k := 1) (g := 1153) z_cb9 (Nat.le_of_ble_eq_true rfl) (Nat.le_of_ble_eq_true rfl) (Nat.le_of_ble_eq_true rfl) rfl rfl rfl zw_190 rfl ha (Or.inl rfl) dX9_takeOff_65 ?_
        refine z_nm (fun M_12 g_12 => ?_)
        replace hP := hP M_12 g_12
        have q_12 := z_k1 g_12
        have ha := z_kk q_12 ha
        exact z_retv rfl dX9_takeOff_68 hP
      · replace hP := hP.2 h10
        refine z_aload_n dX9_takeOff_20 rfl 0 rfl ?_
        refine z_iload_n dX9_takeOff_21 rfl 3 rfl ?_
        refine z_wts (fun hT13 _ => ?_)
        refine z_cVb (c := 9) (n := 1) (Y1 := Y_X9_isLost) (st := []) rfl ha z_cb9 (Nat.le_of_ble_eq_true rfl) rfl (s_X9_isLost ha hP) rfl ⟨z_dc_X9_isLost, ⟨(Nat.le_of_ble_eq_true rfl), (Nat.le_of_ble_eq_true rfl)⟩, (Nat.le_of_ble_eq_true rfl)⟩ rfl zw_951 zw_952 zw_953 zw_7 zw_954 dX9_takeOff_22 (fun x_13 M_13 b13 hP _ x13 => ?_)
        have ha := x13.k (k := 9) hT13 ha
        refine z_if_eq (tgt := 38) dX9_takeOff_25 (by decide) (fun h14 => ?_) (fun h14 => ?_)
        · replace hP := hP.1 h14
          refine z_sub (lv' := [(0, z_O _), (1, z_I _), (2, z_I _), (3, z_I _)]) [0, 1, 2, 3] rfl ?_
          exact v_X9_takeOff_38 (fun _ _ _ _ w0 hP => ih w0 hP) ha hP
        · replace hP := hP.2 h14
          refine z_aload_n dX9_takeOff_28 rfl 0 rfl ?_
          refine z_dup dX9_takeOff_29 rfl ?_
          refine z_geti (c := 9) (k := 3) (g := 1155) z_cb9 (Nat.le_of_ble_eq_true rfl) (Nat.le_of_ble_eq_true rfl) rfl (Nat.le_of_ble_eq_true rfl) zw_195 rfl ha dX9_takeOff_30 ?_
          refine z_pc (pc' := 33) rfl ?_
          refine z_iconst (v := 1) dX9_takeOff_33 (by decide) ?_
          refine z_isub dX9_takeOff_34 ?_
          refine z_puti (c := 9) (k := 3) (g := 1155) z_cb9 (Nat.le_of_ble_eq_true rfl) (Nat.le_of_ble_eq_true rfl) (Nat.le_of_ble_eq_true rfl) rfl rfl rfl zw_195 rfl ha (Or.inl rfl) dX9_takeOff_35 ?_
          refine z_nm (fun M_16 g_16 => ?_)
          replace hP := hP M_16 g_16
          have q_16 := z_k1 g_16
          have ha := z_kk q_16 ha
          refine z_sub (lv' := [(0, z_O _), (1, z_I _), (2, z_I _), (3, z_I _)]) [0, 1, 2, 3] rfl ?_
          exact v_X9_takeOff_38 (fun _ _ _ _ w0 hP => ih w0 hP) ha hP
set_option maxRecDepth 100000 in
set_option maxHeartbeats 4000000 in
theorem s_X9_takeOff {G : z_G} {M : z_Mem} {a : Nat} {p1 : Int32} {p2 : Int32} {Post : z_Mem → Prop} (ha : z_ki M a = 10) (hP : P_X9_takeOff a p1 p2 M Post) : z_Mt G Y_X9_takeOff M [z_O (some a), z_I p1, z_I p2] (z_PV Post) := by
  refine z_ofV (by decide) (Nat.le_of_ble_eq_true rfl) ?_
  unfold P_X9_takeOff at hP
  refine z_sub (lv' := [(0, z_O (some a)), (1, z_I p1), (2, z_I p2)]) [0, 1, 2] rfl ?_
  refine z_iconst (v := 0) dX9_takeOff_0 (by decide) ?_
  refine z_iload_n dX9_takeOff_1 rfl 1 rfl ?_
  refine z_mmax zw_950 zw_102 zw_5 zw_103 dX9_takeOff_2 (Nat.le_of_ble_eq_true rfl) (Nat.le_of_ble_eq_true rfl) ?_
  refine z_topi (fun x_17 y_17 => ?_)
  replace hP := hP x_17 y_17
  refine z_istore_n (lv' := [(3, z_I _), (0, z_O _), (1, z_I _), (2, z_I _)]) dX9_takeOff_5 rfl (Nat.le_of_ble_eq_true rfl) rfl ?_
  obtain ⟨n18, hP⟩ := hP
  refine z_sub (lv' := [(0, z_O _), (1, z_I _), (2, z_I _), (3, z_I _)]) [1, 2, 3, 0] rfl ?_
  exact v_X9_takeOff_6  n18 ha hP
def P_X1_sendPacket_79 (a : Nat) (Post : z_Mem → Prop)  (x1 : Option Nat) (x2 : Int32) (x3 : Int32) (x4 : Int32) (x6 : Option Nat) (t0 : Option Nat) (t1 : Int32) (M : z_Mem) : Prop := z_nn t0 fun a1 => (∀ M_2 : z_Mem, M_2 = z_sfi M 776 a1 t1 → (z_nn x1 fun a3 => (z_nn x6 fun a5 => (∀ M_6 : z_Mem, M_6 = z_sfi M_2 780 a5 (z_fi M_2 905 a3) → (∀ M_8 : z_Mem, M_8 = z_sfi M_6 781 a5 (z_fi M_6 907 a3) → (z_nn (z_fr M_8 132 a) fun a11 => (vp_in (z_fi M_8 133 a) (z_ln M_8 a11) ∧ (∀ M_13 : z_Mem, M_13 = z_sar M_8 a11 (((z_fi M_8 133 a) : Int32).toNatClampNeg) x6 → (∀ M_15 : z_Mem, M_15 = z_sfi M_13 133 a ((z_fi M_13 133 a) + 1) → (∀ M_17 : z_Mem, M_17 = z_sfi M_15 905 a3 ((z_fi M_15 905 a3) + 1) → (∀ M_19 : z_Mem, M_19 = z_sfi M_17 899 a3 ((z_fi M_17 899 a3) + 1) → (z_nn (z_fr M_19 128 a) fun a21 => (∀ M_23 : z_Mem, M_23 = z_sfi M_19 908 a3 (z_fi M_19 645 a21) → (z_nn (z_fr M_23 129 a) fun a25 => (vp_in x2 (z_ln M_23 a25) ∧ (z_nn (z_ar M_23 a25 ((x2 : Int32).toNatClampNeg)) fun a28 => (P_X9_takeOff a28 x3 x4 M_23 fun M_27 => (z_room M_27 8 ∧ (∀ M_30 : z_Mem, M_30 = z_new M_27 5 8 → (P_X4_init (z_sz M_27) 3 M_30 fun M_31 => (∀ M_32 : z_Mem, M_32 = z_sfr M_31 515 (z_sz M_27) x6 → (z_nn (z_fr M_32 128 a) fun a36 => (P_X5_putToServer a36 (z_fi M_32 896 a3) (some (z_sz M_27)) M_32 fun M_35 => (Post M_35))))))))))))))))))))))))
set_option maxRecDepth 100000 in
def P_X1_sendPacket (a : Nat) (p1 : Option Nat) (p2 : Int32) (p3 : Int32) (p4 : Int32) (p5 : Int32) (M : z_Mem) (Post : z_Mem → Prop) : Prop := ((400 ≤ (z_fi M 133 a) → Post M) ∧ (¬ 400 ≤ (z_fi M 133 a) → ((p2 < 0 → Post M) ∧ (¬ p2 < 0 → ((p2 < 4 → z_room M 14 ∧ (∀ M_42 : z_Mem, M_42 = z_new M 7 14 → (z_nn p1 fun a44 => (z_nn (z_fr M_42 128 a) fun a47 => (P_X6_init (z_sz M) (z_fi M_42 133 a) (z_fi M_42 896 a44) (z_fi M_42 645 a47) p2 p3 p4 M_42 fun M_49 => (∀ M_51 : z_Mem, M_51 = z_sfi M_49 774 (z_sz M) (z_fi M_49 142 a) → (∀ M_52 : z_Mem, M_52 = z_sfi M_51 775 (z_sz M) p5 → ((((z_fi M_52 135 a) = 1 → P_X1_sendPacket_79 a Post p1 p2 p3 p4 (some (z_sz M)) (some (z_sz M)) 1 M_52) ∧ (¬ (z_fi M_52 135 a) = 1 → P_X1_sendPacket_79 a Post p1 p2 p3 p4 (some (z_sz M)) (some (z_sz M)) 0 M_52)))))))))) ∧ (¬ p2 < 4 → Post M))))))
set_option maxRecDepth 100000 in
set_option maxHeartbeats 4000000 in
theorem v_X1_sendPacket_79 {G : z_G} {M0 : z_Mem} {a : Nat} {Post : z_Mem → Prop}   {x1 : Option Nat} {x2 : Int32} {x3 : Int32} {x4 : Int32} {x6 : Option Nat} {t0 : Option Nat} {t1 : Int32} {M : z_Mem} (ha : z_ki M a = 2) (f_x1 : z_tr M x1 8) (f_x6 : z_tr M x6 7) (f_t0 : z_tr M t0 7) (f_t1 : t1 = 0 ∨ t1 = 1) (hP : P_X1_sendPacket_79 a Post x1 x2 x3 x4 x6 t0 t1 M) : z_V G Y_X1_sendPacket z_X0 M0 (z_QM G M0 (z_PV Post)) M 79 [(0, z_O (some a)), (1, z_O x1), (2, z_I x2), (3, z_I x3), (4, z_I x4), (6, z_O x6)] [z_I t1, z_O t0] := by
  unfold P_X1_sendPacket_79 at hP
  obtain ⟨a1, e1, hP⟩ := hP
  have k1 := f_t0 a1 e1
  refine z_putb (c := 6) (k := 8) (g := 776) z_cb6 (Nat.le_of_ble_eq_true rfl) (Nat.le_of_ble_eq_true rfl) (Nat.le_of_ble_eq_true rfl) rfl rfl rfl zw_1086 e1 k1 f_t1 (Or.inl rfl) dX1_sendPacket_79 ?_
  refine z_nm (fun M_2 g_2 => ?_)
  replace hP := hP M_2 g_2
  have q_2 := z_k1 g_2
  have ha := z_kk q_2 ha
  have f_x1 := z_trk q_2 f_x1
  have f_x6 := z_trk q_2 f_x6
  refine z_aload dX1_sendPacket_82 5 rfl ?_
  refine z_aload_n dX1_sendPacket_84 rfl 1 rfl ?_
  obtain ⟨a3, e3, hP⟩ := hP
  have k3 := f_x1 a3 e3
  refine z_geti (c := 7) (k := 9) (g := 905) z_cb7 (Nat.le_of_ble_eq_true rfl) (Nat.le_of_ble_eq_true rfl) rfl (Nat.le_of_ble_eq_true rfl) zw_370 e3 k3 dX1_sendPacket_85 ?_
  obtain ⟨a5, e5, hP⟩ := hP
  have k5 := f_x6 a5 e5
  refine z_puti (c := 6) (k := 12) (g := 780) z_cb6 (Nat.le_of_ble_eq_true rfl) (Nat.le_of_ble_eq_true rfl) (Nat.le_of_ble_eq_true rfl) rfl rfl rfl zw_1098 e5 k5 (Or.inl rfl) dX1_sendPacket_88 ?_
  refine z_nm (fun M_6 g_6 => ?_)
  replace hP := hP M_6 g_6
  have q_6 := z_k1 g_6
  have ha := z_kk q_6 ha
  have k3 := z_kk q_6 k3
  have k5 := z_kk q_6 k5
  refine z_aload dX1_sendPacket_91 5 rfl ?_
  refine z_pc (pc' := 93) rfl ?_
  refine z_aload_n dX1_sendPacket_93 rfl 1 rfl ?_
  refine z_geti (c := 7) (k := 11) (g := 907) z_cb7 (Nat.le_of_ble_eq_true rfl) (Nat.le_of_ble_eq_true rfl) rfl (Nat.le_of_ble_eq_true rfl) zw_373 e3 k3 dX1_sendPacket_94 ?_
  refine z_puti (c := 6) (k := 13) (g := 781) z_cb6 (Nat.le_of_ble_eq_true rfl) (Nat.le_of_ble_eq_true rfl) (Nat.le_of_ble_eq_true rfl) rfl rfl rfl zw_1099 e5 k5 (Or.inl rfl) dX1_sendPacket_97 ?_
  refine z_nm (fun M_8 g_8 => ?_)
  replace hP := hP M_8 g_8
  have q_8 := z_k1 g_8
  have ha := z_kk q_8 ha
  have k3 := z_kk q_8 k3
  have k5 := z_kk q_8 k5
  refine z_aload_n dX1_sendPacket_100 rfl 0 rfl ?_
  refine z_getr (c := 1) (k := 4) (g := 132) (t := 23) z_cb1 (Nat.le_of_ble_eq_true rfl) (Nat.le_of_ble_eq_true rfl) rfl rfl zw_429 rfl ha dX1_sendPacket_101 (fun f9 => ?_)
  refine z_aload_n dX1_sendPacket_104 rfl 0 rfl ?_
  refine z_pc (pc' := 105) rfl ?_
  refine z_geti (c := 1) (k := 5) (g := 133) z_cb1 (Nat.le_of_ble_eq_true rfl) (Nat.le_of_ble_eq_true rfl) rfl (Nat.le_of_ble_eq_true rfl) zw_430 rfl ha dX1_sendPacket_105 ?_
  refine z_aload dX1_sendPacket_108 5 rfl ?_
  obtain ⟨a11, e11, hP⟩ := hP
  have k11 := f9 a11 e11
  obtain ⟨i12, hP⟩ := hP
  refine z_aast (t := 23) e11 k11 (Nat.le_of_ble_eq_true rfl) (Nat.le_of_ble_eq_true rfl) i12 (z_trn e5 k5) dX1_sendPacket_110 ?_
  refine z_nm (fun M_13 g_13 => ?_)
  replace hP := hP M_13 g_13
  have q_13 := z_k4 g_13
  have ha := z_kk q_13 ha
  have k3 := z_kk q_13 k3
  have k5 := z_kk q_13 k5
  refine z_aload_n dX1_sendPacket_111 rfl 0 rfl ?_
  refine z_dup dX1_sendPacket_112 rfl ?_
  refine z_geti (c := 1) (k := 5) (g := 133) z_cb1 (Nat.le_of_ble_eq_true rfl) (Nat.le_of_ble_eq_true rfl) rfl (Nat.le_of_ble_eq_true rfl) zw_430 rfl ha dX1_sendPacket_113 ?_
  refine z_pc (pc' := 116) rfl ?_
  refine z_iconst (v := 1) dX1_sendPacket_116 (by decide) ?_
  refine z_iadd dX1_sendPacket_117 ?_
  refine z_puti (c := 1) (k := 5) (g := 133) z_cb1 (Nat.le_of_ble_eq_true rfl) (Nat.le_of_ble_eq_true rfl) (Nat.le_of_ble_eq_true rfl) rfl rfl rfl zw_430 rfl ha (Or.inl rfl) dX1_sendPacket_118 ?_
  refine z_nm (fun M_15 g_15 => ?_)
  replace hP := hP M_15 g_15
  have q_15 := z_k1 g_15
  have ha := z_kk q_15 ha
  have k3 := z_kk q_15 k3
  have k5 := z_kk q_15 k5
  refine z_aload_n dX1_sendPacket_121 rfl 1 rfl ?_
  refine z_dup dX1_sendPacket_122 rfl ?_
  refine z_geti (c := 7) (k := 9) (g := 905) z_cb7 (Nat.le_of_ble_eq_true rfl) (Nat.le_of_ble_eq_true rfl) rfl (Nat.le_of_ble_eq_true rfl) zw_370 e3 k3 dX1_sendPacket_123 ?_
  refine z_pc (pc' := 126) rfl ?_
  refine z_iconst (v := 1) dX1_sendPacket_126 (by decide) ?_
  refine z_iadd dX1_sendPacket_127 ?_
  refine z_puti (c := 7) (k := 9) (g := 905) z_cb7 (Nat.le_of_ble_eq_true rfl) (Nat.le_of_ble_eq_true rfl) (Nat.le_of_ble_eq_true rfl) rfl rfl rfl zw_370 e3 k3 (Or.inl rfl) dX1_sendPacket_128 ?_
  refine z_nm (fun M_17 g_17 => ?_)
  replace hP := hP M_17 g_17
  have q_17 := z_k1 g_17
  have ha := z_kk q_17 ha
  have k3 := z_kk q_17 k3
  have k5 := z_kk q_17 k5
  refine z_aload_n dX1_sendPacket_131 rfl 1 rfl ?_
  refine z_dup dX1_sendPacket_132 rfl ?_
  refine z_geti (c := 7) (k := 3) (g := 899) z_cb7 (Nat.le_of_ble_eq_true rfl) (Nat.le_of_ble_eq_true rfl) rfl (Nat.le_of_ble_eq_true rfl) zw_358 e3 k3 dX1_sendPacket_133 ?_
  refine z_pc (pc' := 136) rfl ?_
  refine z_iconst (v := 1) dX1_sendPacket_136 (by decide) ?_
  refine z_iadd dX1_sendPacket_137 ?_
  refine z_puti (c := 7) (k := 3) (g := 899) z_cb7 (Nat.le_of_ble_eq_true rfl) (Nat.le_of_ble_eq_true rfl) (Nat.le_of_ble_eq_true rfl) rfl rfl rfl zw_358 e3 k3 (Or.inl rfl) dX1_sendPacket_138 ?_
  refine z_nm (fun M_19 g_19 => ?_)
  replace hP := hP M_19 g_19
  have q_19 := z_k1 g_19
  have ha := z_kk q_19 ha
  have k3 := z_kk q_19 k3
  have k5 := z_kk q_19 k5
  refine z_aload_n dX1_sendPacket_141 rfl 1 rfl ?_
  refine z_aload_n dX1_sendPacket_142 rfl 0 rfl ?_
  refine z_getr (c := 1) (k := 0) (g := 128) (t := 6) z_cb1 (Nat.le_of_ble_eq_true rfl) (Nat.le_of_ble_eq_true rfl) rfl rfl zw_425 rfl ha dX1_sendPacket_143 (fun f20 => ?_)
  refine z_pc (pc' := 146) rfl ?_
  obtain ⟨a21, e21, hP⟩ := hP
  have k21 := f20 a21 e21
  refine z_geti (c := 5) (k := 5) (g := 645) z_cb5 (Nat.le_of_ble_eq_true rfl) (Nat.le_of_ble_eq_true rfl) rfl (Nat.le_of_ble_eq_true rfl) zw_166 e21 k21 dX1_sendPacket_146 ?_
  refine z_puti (c := 7) (k := 12) (g := 908) z_cb7 (Nat.le_of_ble_eq_true rfl) (Nat.le_of_ble_eq_true rfl) (Nat.le_of_ble_eq_true rfl) rfl rfl rfl zw_375 e3 k3 (Or.inl rfl) dX1_sendPacket_149 ?_
  refine z_nm (fun M_23 g_23 => ?_)
  replace hP := hP M_23 g_23
  have q_23 := z_k1 g_23
  have ha := z_kk q_23 ha
  have k3 := z_kk q_23 k3
  have k5 := z_kk q_23 k5
  refine z_aload_n dX1_sendPacket_152 rfl 0 rfl ?_
  refine z_getr (c := 1) (k := 1) (g := 129) (t := 24) z_cb1 (Nat.le_of_ble_eq_true rfl) (Nat.le_of_ble_eq_true rfl) rfl rfl zw_426 rfl ha dX1_sendPacket_153 (fun f24 => ?_)
  refine z_iload_n dX1_sendPacket_156 rfl 2 rfl ?_
  obtain ⟨a25, e25, hP⟩ := hP
  have k25 := f24 a25 e25
  obtain ⟨i26, hP⟩ := hP
  refine z_aald (t := 24) e25 k25 (Nat.le_of_ble_eq_true rfl) (Nat.le_of_ble_eq_true rfl) i26 dX1_sendPacket_157 (fun f26 => ?_)
  refine z_pc (pc' := 158) rfl ?_
  refine z_iload_n dX1_sendPacket_158 rfl 3 rfl ?_
  refine z_iload dX1_sendPacket_159 4 rfl ?_
  obtain ⟨a28, e28, hP⟩ := hP
  have k28 := f26 a28 e28
  refine z_wts (fun hT27 _ => ?_)
  refine z_cVv (c := 9) (n := 2) (Y1 := Y_X9_takeOff) (st := []) e28 k28 z_cb9 (Nat.le_of_ble_eq_true rfl) rfl (s_X9_takeOff k28 hP) rfl ⟨z_dc_X9_takeOff, ⟨(Nat.le_of_ble_eq_true rfl), (Nat.le_of_ble_eq_true rfl)⟩, (Nat.le_of_ble_eq_true rfl)⟩ rfl zw_1129 zw_1130 zw_1131 zw_7 zw_1132 dX1_sendPacket_161 (fun M_27 hP _ x27 => ?_)
  have ha := x27.k (k := 1) hT27 ha
  have k3 := x27.k (k := 7) hT27 k3
  have k5 := x27.k (k := 6) hT27 k5
  obtain ⟨r29, hP⟩ := hP
  refine z_wts (fun hT29 _ => ?_)
  refine z_newo (c := 4) z_cb4 (Nat.le_of_ble_eq_true rfl) rfl z_df4 zw_792 zw_115 zw_6 r29 dX1_sendPacket_164 (fun x29 k29 => ?_)
  refine z_nm (fun M_30 g_30 => ?_)
  replace hP := hP M_30 g_30
  have x29 := z_xe g_30 x29
  have k29 := z_xk g_30 k29
  have ha := x29.k (k := 1) hT29 ha
  have k3 := x29.k (k := 7) hT29 k3
  have k5 := x29.k (k := 6) hT29 k5
  refine z_dup dX1_sendPacket_167 rfl ?_
  refine z_iconst (v := 3) dX1_sendPacket_168 (by decide) ?_
  refine z_pc (pc' := 169) rfl ?_
  refine z_wts (fun hT31 _ => ?_)
  refine z_cIv (n := 1) (Y1 := Y_X4_init) (st := [z_O _]) rfl (s_X4_init k29 hP) rfl rfl rfl ⟨z_dc_X4_init, ⟨(Nat.le_of_ble_eq_true rfl), (Nat.le_of_ble_eq_true rfl)⟩, (Nat.le_of_ble_eq_true rfl)⟩ rfl zw_793 zw_117 zw_6 zw_118 dX1_sendPacket_169 (fun M_31 hP _ x31 => ?_)
  have ha := x31.k (k := 1) hT31 ha
  have k3 := x31.k (k := 7) hT31 k3
  have k5 := x31.k (k := 6) hT31 k5
  have k29 := x31.k (k := 4) hT31 k29
  refine z_astore (lv' := [(7, z_O _), (0, z_O _), (1, z_O _), (2, z_I _), (3, z_I _), (4, z_I _), (6, z_O _)]) dX1_sendPacket_172 (Nat.le_of_ble_eq_true rfl) rfl ?_
  refine z_aload dX1_sendPacket_174 0 rfl ?_
  refine z_aload dX1_sendPacket_176 6 rfl ?_
  refine z_putr (c := 4) (k := 3) (g := 515) (t := 7) z_cb4 (Nat.le_of_ble_eq_true rfl) (Nat.le_of_ble_eq_true rfl) rfl rfl rfl zw_130 rfl k29 (z_trn e5 k5) (Or.inl rfl) dX1_sendPacket_178 ?_
  refine z_nm (fun M_32 g_32 => ?_)
  replace hP := hP M_32 g_32
  have q_32 := z_k2 g_32
  have ha := z_kk q_32 ha
  have k29 := z_kk q_32 k29
  have k3 := z_kk q_32 k3
  have k5 := z_kk q_32 k5
  refine z_aload_n dX1_sendPacket_181 rfl 1 rfl ?_
  refine z_pc (pc' := 182) rfl ?_
  refine z_getr (c := 1) (k := 0) (g := 128) (t := 6) z_cb1 (Nat.le_of_ble_eq_true rfl) (Nat.le_of_ble_eq_true rfl) rfl rfl zw_425 rfl ha dX1_sendPacket_182 (fun f33 => ?_)
  refine z_aload_n dX1_sendPacket_185 rfl 2 rfl ?_
  refine z_geti (c := 7) (k := 0) (g := 896) z_cb7 (Nat.le_of_ble_eq_true rfl) (Nat.le_of_ble_eq_true rfl) rfl (Nat.le_of_ble_eq_true rfl) zw_350 e3 k3 dX1_sendPacket_186 ?_
  refine z_aload dX1_sendPacket_189 0 rfl ?_
  obtain ⟨a36, e36, hP⟩ := hP
  have k36 := f33 a36 e36
  refine z_wts (fun hT35 _ => ?_)
  refine z_cVv (c := 5) (n := 2) (Y1 := Y_X5_putToServer) (st := []) e36 k36 z_cb5 (Nat.le_of_ble_eq_true rfl) rfl (s_X5_putToServer k36 (z_trn rfl k29) hP) rfl ⟨z_dc_X5_putToServer, ⟨(Nat.le_of_ble_eq_true rfl), (Nat.le_of_ble_eq_true rfl)⟩, (Nat.le_of_ble_eq_true rfl)⟩ rfl zw_794 zw_795 zw_796 zw_2 zw_797 dX1_sendPacket_191 (fun M_35 hP _ x35 => ?_)
  have ha := x35.k (k := 1) hT35 ha
  have k29 := x35.k (k := 4) hT35 k29
  have k3 := x35.k (k := 7) hT35 k3
  have k5 := x35.k (k := 6) hT35 k5
  exact z_retv rfl dX1_sendPacket_194 hP
set_option maxRecDepth 100000 in
set_option maxHeartbeats 4000000 in
theorem s_X1_sendPacket {G : z_G} {M : z_Mem} {a : Nat} {p1 : Option Nat} {p2 : Int32} {p3 : Int32} {p4 : Int32} {p5 : Int32} {Post : z_Mem → Prop} (ha : z_ki M a = 2) (f_p1 : z_tr M p1 8) (f_p5 : p5 = 0 ∨ p5 = 1) (hP : P_X1_sendPacket a p1 p2 p3 p4 p5 M Post) : z_Mt G Y_X1_sendPacket M [z_O (some a), z_O p1, z_I p2, z_I p3, z_I p4, z_I p5] (z_PV Post) := by
  refine z_ofV (by decide) (Nat.le_of_ble_eq_true rfl) ?_
  unfold P_X1_sendPacket at hP
  refine z_sub (lv' := [(0, z_O (some a)), (1, z_O p1), (2, z_I p2), (3, z_I p3), (4, z_I p4), (5, z_I p5)]) [0, 1, 2, 3, 4, 5] rfl ?_
  refine z_aload_n dX1_sendPacket_0 rfl 0 rfl ?_
  refine z_geti (c := 1) (k := 5) (g := 133) z_cb1 (Nat.le_of_ble_eq_true rfl) (Nat.le_of_ble_eq_true rfl) rfl (Nat.le_of_ble_eq_true rfl) zw_430 rfl ha dX1_sendPacket_1 ?_
  refine z_sipush (v := 400) dX1_sendPacket_4 (by decide) ?_
  refine z_icmp_ge (tgt := 19) dX1_sendPacket_7 (by decide) (fun h38 => ?_) (fun h38 => ?_)
  · replace hP := hP.1 h38
    exact z_retv rfl dX1_sendPacket_19 hP
  · replace hP := hP.2 h38
    refine z_iload_n dX1_sendPacket_10 rfl 2 rfl ?_
    refine z_if_lt (tgt := 19) dX1_sendPacket_11 (by decide) (fun h39 => ?_) (fun h39 => ?_)
    · replace hP := hP.1 h39
      exact z_retv rfl dX1_sendPacket_19 hP
    · replace hP := hP.2 h39
      refine z_iload_n dX1_sendPacket_14 rfl 2 rfl ?_
      refine z_iconst (v := 4) dX1_sendPacket_15 (by decide) ?_
      refine z_pc (pc' := 16) rfl ?_
      refine z_icmp_lt (tgt := 20) dX1_sendPacket_16 (by decide) (fun h40 => ?_) (fun h40 => ?_)
      · replace hP := hP.1 h40
        obtain ⟨r41, hP⟩ := hP
        refine z_wts (fun hT41 _ => ?_)
        refine z_newo (c := 6) z_cb6 (Nat.le_of_ble_eq_true rfl) rfl z_df6 zw_423 zw_1052 zw_21 r41 dX1_sendPacket_20 (fun x41 k41 => ?_)
        refine z_nm (fun M_42 g_42 => ?_)
        replace hP := hP M_42 g_42
        have x41 := z_xe g_42 x41
        have k41 := z_xk g_42 k41
        have ha := x41.k (k := 1) hT41 ha
        have f_p1 := x41.t (k := 7) hT41 f_p1
        refine z_dup dX1_sendPacket_23 rfl ?_
        refine z_aload_n dX1_sendPacket_24 rfl 0 rfl ?_
        refine z_geti (c := 1) (k := 5) (g := 133) z_cb1 (Nat.le_of_ble_eq_true rfl) (Nat.le_of_ble_eq_true rfl) rfl (Nat.le_of_ble_eq_true rfl) zw_430 rfl ha dX1_sendPacket_25 ?_
        refine z_aload_n dX1_sendPacket_28 rfl 1 rfl ?_
        obtain ⟨a44, e44, hP⟩ := hP
        have k44 := f_p1 a44 e44
        refine z_geti (c := 7) (k := 0) (g := 896) z_cb7 (Nat.le_of_ble_eq_true rfl) (Nat.le_of_ble_eq_true rfl) rfl (Nat.le_of_ble_eq_true rfl) zw_350 e44 k44 dX1_sendPacket_29 ?_
        refine z_pc (pc' := 32) rfl ?_
        refine z_aload_n dX1_sendPacket_32 rfl 0 rfl ?_
        refine z_getr (c := 1) (k := 0) (g := 128) (t := 6) z_cb1 (Nat.le_of_ble_eq_true rfl) (Nat.le_of_ble_eq_true rfl) rfl rfl zw_425 rfl ha dX1_sendPacket_33 (fun f46 => ?_)
        obtain ⟨a47, e47, hP⟩ := hP
        have k47 := f46 a47 e47
        refine z_geti (c := 5) (k := 5) (g := 645) z_cb5 (Nat.le_of_ble_eq_true rfl) (Nat.le_of_ble_eq_true rfl) rfl (Nat.le_of_ble_eq_true rfl) zw_166 e47 k47 dX1_sendPacket_36 ?_
        refine z_iload_n dX1_sendPacket_39 rfl 2 rfl ?_
        refine z_iload_n dX1_sendPacket_40 rfl 3 rfl ?_
        refine z_iload dX1_sendPacket_41 4 rfl ?_
        refine z_pc (pc' := 43) rfl ?_
        refine z_wts (fun hT49 _ => ?_)
        refine z_cIv (n := 6) (Y1 := Y_X6_init) (st := [z_O _]) rfl (s_X6_init k41 hP) rfl rfl rfl ⟨z_dc_X6_init, ⟨(Nat.le_of_ble_eq_true rfl), (Nat.le_of_ble_eq_true rfl)⟩, (Nat.le_of_ble_eq_true rfl)⟩ rfl zw_1053 zw_1054 zw_21 zw_1055 dX1_sendPacket_43 (fun M_49 hP _ x49 => ?_)
        have ha := x49.k (k := 1) hT49 ha
        have k44 := x49.k (k := 7) hT49 k44
        have k41 := x49.k (k := 6) hT49 k41
        refine z_astore (lv' := [(6, z_O _), (0, z_O _), (1, z_O _), (2, z_I _), (3, z_I _), (4, z_I _), (5, z_I _)]) dX1_sendPacket_46 (Nat.le_of_ble_eq_true rfl) rfl ?_
        refine z_aload dX1_sendPacket_48 0 rfl ?_
        refine z_aload_n dX1_sendPacket_50 rfl 1 rfl ?_
        refine z_geti (c := 1) (k := 14) (g := 142) z_cb1 (Nat.le_of_ble_eq_true rfl) (Nat.le_of_ble_eq_true rfl) rfl (Nat.le_of_ble_eq_true rfl) zw_442 rfl ha dX1_sendPacket_51 ?_
        refine z_puti (c := 6) (k := 6) (g := 774) z_cb6 (Nat.le_of_ble_eq_true rfl) (Nat.le_of_ble_eq_true rfl) (Nat.le_of_ble_eq_true rfl) rfl rfl rfl zw_1079 rfl k41 (Or.inl rfl) dX1_sendPacket_54 ?_
        refine z_nm (fun M_51 g_51 => ?_)
        replace hP := hP M_51 g_51
        have q_51 := z_k1 g_51
        have ha := z_kk q_51 ha
        have k41 := z_kk q_51 k41
        have k44 := z_kk q_51 k44
        refine z_pc (pc' := 57) rfl ?_
        refine z_aload dX1_sendPacket_57 0 rfl ?_
        refine z_iload dX1_sendPacket_59 6 rfl ?_
        refine z_putb (c := 6) (k := 7) (g := 775) z_cb6 (Nat.le_of_ble_eq_true rfl) (Nat.le_of_ble_eq_true rfl) (Nat.le_of_ble_eq_true rfl) rfl rfl rfl zw_1084 rfl k41 f_p5 (Or.inl rfl) dX1_sendPacket_61 ?_
        refine z_nm (fun M_52 g_52 => ?_)
        replace hP := hP M_52 g_52
        have q_52 := z_k1 g_52
        have ha := z_kk q_52 ha
        have k41 := z_kk q_52 k41
        have k44 := z_kk q_52 k44
        refine z_aload dX1_sendPacket_64 0 rfl ?_
        refine z_aload_n dX1_sendPacket_66 rfl 1 rfl ?_
        refine z_geti (c := 1) (k := 7) (g := 135) z_cb1 (Nat.le_of_ble_eq_true rfl) (Nat.le_of_ble_eq_true rfl) rfl (Nat.le_of_ble_eq_true rfl) zw_433 rfl ha dX1_sendPacket_67 ?_
        refine z_pc (pc' := 70) rfl ?_
        refine z_iconst (v := 1) dX1_sendPacket_70 (by decide) ?_
        refine z_icmp_ne (tgt := 78) dX1_sendPacket_71 (by decide) (fun h54 => ?_) (fun h54 => ?_)
        · replace hP := hP.2 h54
          refine z_iconst (v := 0) dX1_sendPacket_78 (by decide) ?_
          refine z_sub (lv' := [(0, z_O _), (1, z_O _), (2, z_I _), (3, z_I _), (4, z_I _), (6, z_O _)]) [1, 2, 3, 4, 5, 0] rfl ?_
          exact v_X1_sendPacket_79  ha (z_trn e44 k44) (z_trn rfl k41) (z_trn rfl k41) (Or.inl rfl) hP
        · replace hP := hP.1 h54
          refine z_iconst (v := 1) dX1_sendPacket_74 (by decide) ?_
          refine z_goto (tgt := 79) dX1_sendPacket_75 (by decide) ?_
          refine z_sub (lv' := [(0, z_O _), (1, z_O _), (2, z_I _), (3, z_I _), (4, z_I _), (6, z_O _)]) [1, 2, 3, 4, 5, 0] rfl ?_
          exact v_X1_sendPacket_79  ha (z_trn e44 k44) (z_trn rfl k41) (z_trn rfl k41) (Or.inr rfl) hP
      · replace hP := hP.2 h40
        exact z_retv rfl dX1_sendPacket_19 hP
def P_X1_probeInTime_23 (a : Nat) (Post : z_Mem → Prop)  (x1 : Option Nat) (t0 : Option Nat) (M : z_Mem) : Prop := ((t0 = none → Post M) ∧ (∀ a1 : Nat, t0 = some a1 → ((400 ≤ (z_fi M 133 a) → Post M) ∧ (¬ 400 ≤ (z_fi M 133 a) → z_nn x1 fun a4 => (∀ M_6 : z_Mem, M_6 = z_sfi M 913 a4 ((z_fi M 913 a4) + 1) → (∀ M_8 : z_Mem, M_8 = z_sfi M_6 910 a4 ((z_fi M_6 910 a4) + 1) → (P_X1_sendPacket a x1 (z_fi M_8 771 a1) (z_fi M_8 772 a1) (z_fi M_8 773 a1) 1 M_8 fun M_12 => (Post M_12))))))))
set_option maxRecDepth 100000 in
def P_X1_probeInTime (a : Nat) (p1 : Option Nat) (M : z_Mem) (Post : z_Mem → Prop) : Prop := z_nn (z_fr M 128 a) fun a14 => (z_nn p1 fun a17 => (P_X7_isProbeDue a17 (z_fi M 645 a14) M fun x_16 M_16 => (((x_16 = 0 → P_X1_probeInTime_23 a Post p1 none M_16) ∧ (¬ x_16 = 0 → P_X1_lowestInFlight a p1 M_16 fun x_19 M_19 => (P_X1_probeInTime_23 a Post p1 x_19 M_19))))))
set_option maxRecDepth 100000 in
set_option maxHeartbeats 4000000 in
theorem v_X1_probeInTime_23 {G : z_G} {M0 : z_Mem} {a : Nat} {Post : z_Mem → Prop}   {x1 : Option Nat} {t0 : Option Nat} {M : z_Mem} (ha : z_ki M a = 2) (f_x1 : z_tr M x1 8) (f_t0 : z_tr M t0 7) (hP : P_X1_probeInTime_23 a Post x1 t0 M) : z_V G Y_X1_probeInTime z_X0 M0 (z_QM G M0 (z_PV Post)) M 23 [(0, z_O (some a)), (1, z_O x1)] [z_O t0] := by
  unfold P_X1_probeInTime_23 at hP
  refine z_astore_n (lv' := [(2, z_O _), (0, z_O _), (1, z_O _)]) dX1_probeInTime_23 rfl (Nat.le_of_ble_eq_true rfl) rfl ?_
  refine z_aload_n dX1_probeInTime_24 rfl 0 rfl ?_
  refine z_ifnull (tgt := 76) dX1_probeInTime_25 (by decide) (fun h1 => ?_) (fun a1 e1 => ?_)
  · replace hP := hP.1 h1
    exact z_retv rfl dX1_probeInTime_76 hP
  · replace hP := hP.2 a1 e1
    have k1 := f_t0 a1 e1
    refine z_aload_n dX1_probeInTime_28 rfl 1 rfl ?_
    refine z_geti (c := 1) (k := 5) (g := 133) z_cb1 (Nat.le_of_ble_eq_true rfl) (Nat.le_of_ble_eq_true rfl) rfl (Nat.le_of_ble_eq_true rfl) zw_430 rfl ha dX1_probeInTime_29 ?_
    refine z_sipush (v := 400) dX1_probeInTime_32 (by decide) ?_
    refine z_icmp_ge (tgt := 76) dX1_probeInTime_35 (by decide) (fun h3 => ?_) (fun h3 => ?_)
    · replace hP := hP.1 h3
      exact z_retv rfl dX1_probeInTime_76 hP
    · replace hP := hP.2 h3
      refine z_aload_n dX1_probeInTime_38 rfl 2 rfl ?_
      refine z_pc (pc' := 39) rfl ?_
      refine z_dup dX1_probeInTime_39 rfl ?_
      obtain ⟨a4, e4, hP⟩ := hP
      have k4 := f_x1 a4 e4
      refine z_geti (c := 7) (k := 17) (g := 913) z_cb7 (Nat.le_of_ble_eq_true rfl) (Nat.le_of_ble_eq_true rfl) rfl (Nat.le_of_ble_eq_true rfl) zw_384 e4 k4 dX1_probeInTime_40 ?_
      refine z_iconst (v := 1) dX1_probeInTime_43 (by decide) ?_
      refine z_iadd dX1_probeInTime_44 ?_
      refine z_puti (c := 7) (k := 17) (g := 913) z_cb7 (Nat.le_of_ble_eq_true rfl) (Nat.le_of_ble_eq_true rfl) (Nat.le_of_ble_eq_true rfl) rfl rfl rfl zw_384 e4 k4 (Or.inl rfl) dX1_probeInTime_45 ?_
      refine z_nm (fun M_6 g_6 => ?_)
      replace hP := hP M_6 g_6
      have q_6 := z_k1 g_6
      have ha := z_kk q_6 ha
      have k1 := z_kk q_6 k1
      have k4 := z_kk q_6 k4
      refine z_aload_n dX1_probeInTime_48 rfl 2 rfl ?_
      refine z_pc (pc' := 49) rfl ?_
      refine z_dup dX1_probeInTime_49 rfl ?_
      refine z_geti (c := 7) (k := 14) (g := 910) z_cb7 (Nat.le_of_ble_eq_true rfl) (Nat.le_of_ble_eq_true rfl) rfl (Nat.le_of_ble_eq_true rfl) zw_379 e4 k4 dX1_probeInTime_50 ?_
      refine z_iconst (v := 1) dX1_probeInTime_53 (by decide) ?_
      refine z_iadd dX1_probeInTime_54 ?_
      refine z_puti (c := 7) (k := 14) (g := 910) z_cb7 (Nat.le_of_ble_eq_true rfl) (Nat.le_of_ble_eq_true rfl) (Nat.le_of_ble_eq_true rfl) rfl rfl rfl zw_379 e4 k4 (Or.inl rfl) dX1_probeInTime_55 ?_
      refine z_nm (fun M_8 g_8 => ?_)
      replace hP := hP M_8 g_8
      have q_8 := z_k1 g_8
      have ha := z_kk q_8 ha
      have k1 := z_kk q_8 k1
      have k4 := z_kk q_8 k4
      refine z_aload_n dX1_probeInTime_58 rfl 1 rfl ?_
      refine z_pc (pc' := 59) rfl ?_
      refine z_aload_n dX1_probeInTime_59 rfl 2 rfl ?_
      refine z_aload_n dX1_probeInTime_60 rfl 0 rfl ?_
      refine z_geti (c := 6) (k := 3) (g := 771) z_cb6 (Nat.le_of_ble_eq_true rfl) (Nat.le_of_ble_eq_true rfl) rfl (Nat.le_of_ble_eq_true rfl) zw_1069 e1 k1 dX1_probeInTime_61 ?_
      refine z_aload_n dX1_probeInTime_64 rfl 0 rfl ?_
      refine z_geti (c := 6) (k := 4) (g := 772) z_cb6 (Nat.le_of_ble_eq_true rfl) (Nat.le_of_ble_eq_true rfl) rfl (Nat.le_of_ble_eq_true rfl) zw_1073 e1 k1 dX1_probeInTime_65 ?_
      refine z_aload_n dX1_probeInTime_68 rfl 0 rfl ?_
      refine z_pc (pc' := 69) rfl ?_
      refine z_geti (c := 6) (k := 5) (g := 773) z_cb6 (Nat.le_of_ble_eq_true rfl) (Nat.le_of_ble_eq_true rfl) rfl (Nat.le_of_ble_eq_true rfl) zw_1077 e1 k1 dX1_probeInTime_69 ?_
      refine z_iconst (v := 1) dX1_probeInTime_72 (by decide) ?_
      refine z_wts (fun hT12 _ => ?_)
      refine z_cVv (c := 1) (n := 5) (Y1 := Y_X1_sendPacket) (st := []) rfl ha z_cb1 (Nat.le_of_ble_eq_true rfl) rfl (s_X1_sendPacket ha (z_trn e4 k4) (Or.inr rfl) hP) rfl ⟨z_dc_X1_sendPacket, ⟨(Nat.le_of_ble_eq_true rfl), (Nat.le_of_ble_eq_true rfl)⟩, (Nat.le_of_ble_eq_true rfl)⟩ rfl zw_1048 zw_1050 zp_24 zw_9 zw_1051 dX1_probeInTime_73 (fun M_12 hP _ x12 => ?_)
      have ha := x12.k (k := 1) hT12 ha
      have k1 := x12.k (k := 6) hT12 k1
      have k4 := x12.k (k := 7) hT12 k4
      exact z_retv rfl dX1_probeInTime_76 hP
set_option maxRecDepth 100000 in
set_option maxHeartbeats 4000000 in
theorem s_X1_probeInTime {G : z_G} {M : z_Mem} {a : Nat} {p1 : Option Nat} {Post : z_Mem → Prop} (ha : z_ki M a = 2) (f_p1 : z_tr M p1 8) (hP : P_X1_probeInTime a p1 M Post) : z_Mt G Y_X1_probeInTime M [z_O (some a), z_O p1] (z_PV Post) := by
  refine z_ofV (by decide) (Nat.le_of_ble_eq_true rfl) ?_
  unfold P_X1_probeInTime at hP
  refine z_sub (lv' := [(0, z_O (some a)), (1, z_O p1)]) [0, 1] rfl ?_
  refine z_aload_n dX1_probeInTime_0 rfl 1 rfl ?_
  refine z_aload_n dX1_probeInTime_1 rfl 0 rfl ?_
  refine z_getr (c := 1) (k := 0) (g := 128) (t := 6) z_cb1 (Nat.le_of_ble_eq_true rfl) (Nat.le_of_ble_eq_true rfl) rfl rfl zw_425 rfl ha dX1_probeInTime_2 (fun f13 => ?_)
  obtain ⟨a14, e14, hP⟩ := hP
  have k14 := f13 a14 e14
  refine z_geti (c := 5) (k := 5) (g := 645) z_cb5 (Nat.le_of_ble_eq_true rfl) (Nat.le_of_ble_eq_true rfl) rfl (Nat.le_of_ble_eq_true rfl) zw_166 e14 k14 dX1_probeInTime_5 ?_
  obtain ⟨a17, e17, hP⟩ := hP
  have k17 := f_p1 a17 e17
  refine z_wts (fun hT16 _ => ?_)
  refine z_cVb (c := 7) (n := 1) (Y1 := Y_X7_isProbeDue) (st := []) e17 k17 z_cb7 (Nat.le_of_ble_eq_true rfl) rfl (s_X7_isProbeDue k17 hP) rfl ⟨z_dc_X7_isProbeDue, ⟨(Nat.le_of_ble_eq_true rfl), (Nat.le_of_ble_eq_true rfl)⟩, (Nat.le_of_ble_eq_true rfl)⟩ rfl zw_1044 zw_1045 zw_1046 zw_10 zw_1047 dX1_probeInTime_8 (fun x_16 M_16 b16 hP _ x16 => ?_)
  have ha := x16.k (k := 1) hT16 ha
  have k17 := x16.k (k := 7) hT16 k17
  refine z_if_eq (tgt := 22) dX1_probeInTime_11 (by decide) (fun h18 => ?_) (fun h18 => ?_)
  · replace hP := hP.1 h18
    refine z_null dX1_probeInTime_22 ?_
    refine z_sub (lv' := [(0, z_O _), (1, z_O _)]) [0, 1] rfl ?_
    exact v_X1_probeInTime_23  ha (z_trn e17 k17) z_tr0 hP
  · replace hP := hP.2 h18
    refine z_aload_n dX1_probeInTime_14 rfl 0 rfl ?_
    refine z_pc (pc' := 15) rfl ?_
    refine z_aload_n dX1_probeInTime_15 rfl 1 rfl ?_
    refine z_wts (fun hT19 _ => ?_)
    refine z_cVo (c := 1) (n := 1) (Y1 := Y_X1_lowestInFlight) (st := []) rfl ha z_cb1 (Nat.le_of_ble_eq_true rfl) rfl (s_X1_lowestInFlight ha (z_trn e17 k17) hP) rfl ⟨z_dc_X1_lowestInFlight, ⟨(Nat.le_of_ble_eq_true rfl), (Nat.le_of_ble_eq_true rfl)⟩, (Nat.le_of_ble_eq_true rfl)⟩ rfl zw_1019 zw_1021 zp_22 zw_9 zw_1022 dX1_probeInTime_16 (fun x_19 M_19 f19 hP _ x19 => ?_)
    have ha := x19.k (k := 1) hT19 ha
    have k17 := x19.k (k := 7) hT19 k17
    refine z_goto (tgt := 23) dX1_probeInTime_19 (by decide) ?_
    refine z_sub (lv' := [(0, z_O _), (1, z_O _)]) [0, 1] rfl ?_
    exact v_X1_probeInTime_23  ha (z_trn e17 k17) f19 hP
def P_X1_lookAfter_94 (a : Nat) (Post : z_Mem → Prop)  (M : z_Mem) : Prop := (((z_fi M 135 a) = 3 → z_nn (z_fr M 128 a) fun a4 => ((((z_fi M 645 a4) < (z_fi M 141 a) → Post M) ∧ (¬ (z_fi M 645 a4) < (z_fi M 141 a) → ∀ M_8 : z_Mem, M_8 = z_sfi M 135 a 4 → (Post M_8))))) ∧ (¬ (z_fi M 135 a) = 3 → Post M))
def P_X1_lookAfter_50 (a : Nat) (Post : z_Mem → Prop)  (M : z_Mem) : Prop := (((z_fi M 135 a) = 1 → z_nn (z_fr M 128 a) fun a12 => (((((z_fi M 645 a12) - (z_fi M 139 a)) < (z_fi M 140 a) → P_X1_lookAfter_94 a Post M) ∧ (¬ ((z_fi M 645 a12) - (z_fi M 139 a)) < (z_fi M 140 a) → ∀ M_18 : z_Mem, M_18 = z_sfi M 140 a ((z_fi M 140 a) * 2) → (P_X1_sayHello a M_18 fun M_19 => (Post M_19)))))) ∧ (¬ (z_fi M 135 a) = 1 → P_X1_lookAfter_94 a Post M))
def P_X1_lookAfter_16 (a : Nat) (Post : z_Mem → Prop)  (M : z_Mem) : Prop := P_X1_findLosses a (z_fr M 130 a) 0 M fun M_21 => (P_X1_findLosses a (z_fr M_21 131 a) 0 M_21 fun M_23 => (P_X1_probeInTime a (z_fr M_23 130 a) M_23 fun M_25 => (P_X1_probeInTime a (z_fr M_25 131 a) M_25 fun M_27 => (P_X1_lookAfter_50 a Post M_27))))
set_option maxRecDepth 100000 in
def P_X1_lookAfter (a : Nat) (M : z_Mem) (Post : z_Mem → Prop) : Prop := (((z_fi M 135 a) = 1 → P_X1_lookAfter_16 a Post M) ∧ (¬ (z_fi M 135 a) = 1 → (((z_fi M 135 a) = 2 → P_X1_lookAfter_16 a Post M) ∧ (¬ (z_fi M 135 a) = 2 → P_X1_lookAfter_50 a Post M))))
set_option maxRecDepth 100000 in
set_option maxHeartbeats 4000000 in
theorem v_X1_lookAfter_94 {G : z_G} {M0 : z_Mem} {a : Nat} {Post : z_Mem → Prop}   {M : z_Mem} (ha : z_ki M a = 2) (hP : P_X1_lookAfter_94 a Post M) : z_V G Y_X1_lookAfter z_X0 M0 (z_QM G M0 (z_PV Post)) M 94 [(0, z_O (some a))] [] := by
  unfold P_X1_lookAfter_94 at hP
  refine z_aload_n dX1_lookAfter_94 rfl 0 rfl ?_
  refine z_geti (c := 1) (k := 7) (g := 135) z_cb1 (Nat.le_of_ble_eq_true rfl) (Nat.le_of_ble_eq_true rfl) rfl (Nat.le_of_ble_eq_true rfl) zw_433 rfl ha dX1_lookAfter_95 ?_
  refine z_iconst (v := 3) dX1_lookAfter_98 (by decide) ?_
  refine z_icmp_ne (tgt := 121) dX1_lookAfter_99 (by decide) (fun h2 => ?_) (fun h2 => ?_)
  · replace hP := hP.2 h2
    exact z_retv rfl dX1_lookAfter_121 hP
  · replace hP := hP.1 h2
    refine z_aload_n dX1_lookAfter_102 rfl 0 rfl ?_
    refine z_getr (c := 1) (k := 0) (g := 128) (t := 6) z_cb1 (Nat.le_of_ble_eq_true rfl) (Nat.le_of_ble_eq_true rfl) rfl rfl zw_425 rfl ha dX1_lookAfter_103 (fun f3 => ?_)
    obtain ⟨a4, e4, hP⟩ := hP
    have k4 := f3 a4 e4
    refine z_geti (c := 5) (k := 5) (g := 645) z_cb5 (Nat.le_of_ble_eq_true rfl) (Nat.le_of_ble_eq_true rfl) rfl (Nat.le_of_ble_eq_true rfl) zw_166 e4 k4 dX1_lookAfter_106 ?_
    refine z_pc (pc' := 109) rfl ?_
    refine z_aload_n dX1_lookAfter_109 rfl 0 rfl ?_
    refine z_geti (c := 1) (k := 13) (g := 141) z_cb1 (Nat.le_of_ble_eq_true rfl) (Nat.le_of_ble_eq_true rfl) rfl (Nat.le_of_ble_eq_true rfl) zw_441 rfl ha dX1_lookAfter_110 ?_
    refine z_icmp_lt (tgt := 121) dX1_lookAfter_113 (by decide) (fun h7 => ?_) (fun h7 => ?_)
    · replace hP := hP.1 h7
      exact z_retv rfl dX1_lookAfter_121 hP
    · replace hP := hP.2 h7
      refine z_aload_n dX1_lookAfter_116 rfl 0 rfl ?_
      refine z_iconst (v := 4) dX1_lookAfter_117 (by decide) ?_
      refine z_puti (c := 1) (k := 7) (g := 135) z_cb1 (Nat.le_of_ble_eq_true rfl) (Nat.le_of_ble_eq_true rfl) (Nat.le_of_ble_eq_true rfl) rfl rfl rfl zw_433 rfl ha (Or.inl rfl) dX1_lookAfter_118 ?_
      refine z_nm (fun M_8 g_8 => ?_)
      replace hP := hP M_8 g_8
      have q_8 := z_k1 g_8
      have ha := z_kk q_8 ha
      exact z_retv rfl dX1_lookAfter_121 hP
set_option maxRecDepth 100000 in
set_option maxHeartbeats 4000000 in
theorem v_X1_lookAfter_50 {G : z_G} {M0 : z_Mem} {a : Nat} {Post : z_Mem → Prop}   {M : z_Mem} (ha : z_ki M a = 2) (hP : P_X1_lookAfter_50 a Post M) : z_V G Y_X1_lookAfter z_X0 M0 (z_QM G M0 (z_PV Post)) M 50 [(0, z_O (some a))] [] := by
  unfold P_X1_lookAfter_50 at hP
  refine z_aload_n dX1_lookAfter_50 rfl 0 rfl ?_
  refine z_geti (c := 1) (k := 7) (g := 135) z_cb1 (Nat.le_of_ble_eq_true rfl) (Nat.le_of_ble_eq_true rfl) rfl (Nat.le_of_ble_eq_true rfl) zw_433 rfl ha dX1_lookAfter_51 ?_
  refine z_iconst (v := 1) dX1_lookAfter_54 (by decide) ?_
  refine z_icmp_ne (tgt := 94) dX1_lookAfter_55 (by decide) (fun h10 => ?_) (fun h10 => ?_)
  · replace hP := hP.2 h10
    refine z_sub (lv' := [(0, z_O _)]) [0] rfl ?_
    exact v_X1_lookAfter_94  ha hP
  · replace hP := hP.1 h10
    refine z_aload_n dX1_lookAfter_58 rfl 0 rfl ?_
    refine z_getr (c := 1) (k := 0) (g := 128) (t := 6) z_cb1 (Nat.le_of_ble_eq_true rfl) (Nat.le_of_ble_eq_true rfl) rfl rfl zw_425 rfl ha dX1_lookAfter_59 (fun f11 => ?_)
    obtain ⟨a12, e12, hP⟩ := hP
    have k12 := f11 a12 e12
    refine z_geti (c := 5) (k := 5) (g := 645) z_cb5 (Nat.le_of_ble_eq_true rfl) (Nat.le_of_ble_eq_true rfl) rfl (Nat.le_of_ble_eq_true rfl) zw_166 e12 k12 dX1_lookAfter_62 ?_
    refine z_pc (pc' := 65) rfl ?_
    refine z_aload_n dX1_lookAfter_65 rfl 0 rfl ?_
    refine z_geti (c := 1) (k := 11) (g := 139) z_cb1 (Nat.le_of_ble_eq_true rfl) (Nat.le_of_ble_eq_true rfl) rfl (Nat.le_of_ble_eq_true rfl) zw_439 rfl ha dX1_lookAfter_66 ?_
    refine z_isub dX1_lookAfter_69 ?_
    refine z_aload_n dX1_lookAfter_70 rfl 0 rfl ?_
    refine z_geti (c := 1) (k := 12) (g := 140) z_cb1 (Nat.le_of_ble_eq_true rfl) (Nat.le_of_ble_eq_true rfl) rfl (Nat.le_of_ble_eq_true rfl) zw_440 rfl ha dX1_lookAfter_71 ?_
    refine z_icmp_lt (tgt := 94) dX1_lookAfter_74 (by decide) (fun h16 => ?_) (fun h16 => ?_)
    · replace hP := hP.1 h16
      refine z_sub (lv' := [(0, z_O _)]) [0] rfl ?_
      exact v_X1_lookAfter_94  ha hP
    · replace hP := hP.2 h16
      refine z_aload_n dX1_lookAfter_77 rfl 0 rfl ?_
      refine z_pc (pc' := 78) rfl ?_
      refine z_dup dX1_lookAfter_78 rfl ?_
      refine z_geti (c := 1) (k := 12) (g := 140) z_cb1 (Nat.le_of_ble_eq_true rfl) (Nat.le_of_ble_eq_true rfl) rfl (Nat.le_of_ble_eq_true rfl) zw_440 rfl ha dX1_lookAfter_79 ?_
      refine z_iconst (v := 2) dX1_lookAfter_82 (by decide) ?_
      refine z_imul dX1_lookAfter_83 ?_
      refine z_puti (c := 1) (k := 12) (g := 140) z_cb1 (Nat.le_of_ble_eq_true rfl) (Nat.le_of_ble_eq_true rfl) (Nat.le_of_ble_eq_true rfl) rfl rfl rfl zw_440 rfl ha (Or.inl rfl) dX1_lookAfter_84 ?_
      refine z_nm (fun M_18 g_18 => ?_)
      replace hP := hP M_18 g_18
      have q_18 := z_k1 g_18
      have ha := z_kk q_18 ha
      refine z_aload_n dX1_lookAfter_87 rfl 0 rfl ?_
      refine z_pc (pc' := 88) rfl ?_
      refine z_wts (fun hT19 _ => ?_)
      refine z_cVv (c := 1) (n := 0) (Y1 := Y_X1_sayHello) (st := []) rfl ha z_cb1 (Nat.le_of_ble_eq_true rfl) rfl (s_X1_sayHello ha hP) rfl ⟨z_dc_X1_sayHello, ⟨(Nat.le_of_ble_eq_true rfl), (Nat.le_of_ble_eq_true rfl)⟩, (Nat.le_of_ble_eq_true rfl)⟩ rfl zw_788 zw_790 zp_4 zw_9 zw_791 dX1_lookAfter_88 (fun M_19 hP _ x19 => ?_)
      have ha := x19.k (k := 1) hT19 ha
      refine z_goto (tgt := 121) dX1_lookAfter_91 (by decide) ?_
      exact z_retv rfl dX1_lookAfter_121 hP
set_option maxRecDepth 100000 in
set_option maxHeartbeats 4000000 in
theorem v_X1_lookAfter_16 {G : z_G} {M0 : z_Mem} {a : Nat} {Post : z_Mem → Prop}   {M : z_Mem} (ha : z_ki M a = 2) (hP : P_X1_lookAfter_16 a Post M) : z_V G Y_X1_lookAfter z_X0 M0 (z_QM G M0 (z_PV Post)) M 16 [(0, z_O (some a))] [] := by
  unfold P_X1_lookAfter_16 at hP
  refine z_aload_n dX1_lookAfter_16 rfl 0 rfl ?_
  refine z_aload_n dX1_lookAfter_17 rfl 0 rfl ?_
  refine z_getr (c := 1) (k := 2) (g := 130) (t := 8) z_cb1 (Nat.le_of_ble_eq_true rfl) (Nat.le_of_ble_eq_true rfl) rfl rfl zw_427 rfl ha dX1_lookAfter_18 (fun f20 => ?_)
  refine z_iconst (v := 0) dX1_lookAfter_21 (by decide) ?_
  refine z_wts (fun hT21 _ => ?_)
  refine z_cVv (c := 1) (n := 2) (Y1 := Y_X1_findLosses) (st := []) rfl ha z_cb1 (Nat.le_of_ble_eq_true rfl) rfl (s_X1_findLosses ha f20 (Or.inl rfl) hP) rfl ⟨z_dc_X1_findLosses, ⟨(Nat.le_of_ble_eq_true rfl), (Nat.le_of_ble_eq_true rfl)⟩, (Nat.le_of_ble_eq_true rfl)⟩ rfl zw_1015 zw_1017 zp_21 zw_9 zw_1018 dX1_lookAfter_22 (fun M_21 hP _ x21 => ?_)
  have ha := x21.k (k := 1) hT21 ha
  refine z_aload_n dX1_lookAfter_25 rfl 0 rfl ?_
  refine z_pc (pc' := 26) rfl ?_
  refine z_aload_n dX1_lookAfter_26 rfl 0 rfl ?_
  refine z_getr (c := 1) (k := 3) (g := 131) (t := 8) z_cb1 (Nat.le_of_ble_eq_true rfl) (Nat.le_of_ble_eq_true rfl) rfl rfl zw_428 rfl ha dX1_lookAfter_27 (fun f22 => ?_)
  refine z_iconst (v := 0) dX1_lookAfter_30 (by decide) ?_
  refine z_wts (fun hT23 _ => ?_)
  refine z_cVv (c := 1) (n := 2) (Y1 := Y_X1_findLosses) (st := []) rfl ha z_cb1 (Nat.le_of_ble_eq_true rfl) rfl (s_X1_findLosses ha f22 (Or.inl rfl) hP) rfl ⟨z_dc_X1_findLosses, ⟨(Nat.le_of_ble_eq_true rfl), (Nat.le_of_ble_eq_true rfl)⟩, (Nat.le_of_ble_eq_true rfl)⟩ rfl zw_1015 zw_1017 zp_21 zw_9 zw_1018 dX1_lookAfter_31 (fun M_23 hP _ x23 => ?_)
  have ha := x23.k (k := 1) hT23 ha
  refine z_aload_n dX1_lookAfter_34 rfl 0 rfl ?_
  refine z_aload_n dX1_lookAfter_35 rfl 0 rfl ?_
  refine z_pc (pc' := 36) rfl ?_
  refine z_getr (c := 1) (k := 2) (g := 130) (t := 8) z_cb1 (Nat.le_of_ble_eq_true rfl) (Nat.le_of_ble_eq_true rfl) rfl rfl zw_427 rfl ha dX1_lookAfter_36 (fun f24 => ?_)
  refine z_wts (fun hT25 _ => ?_)
  refine z_cVv (c := 1) (n := 1) (Y1 := Y_X1_probeInTime) (st := []) rfl ha z_cb1 (Nat.le_of_ble_eq_true rfl) rfl (s_X1_probeInTime ha f24 hP) rfl ⟨z_dc_X1_probeInTime, ⟨(Nat.le_of_ble_eq_true rfl), (Nat.le_of_ble_eq_true rfl)⟩, (Nat.le_of_ble_eq_true rfl)⟩ rfl zw_1040 zw_1042 zp_23 zw_9 zw_1043 dX1_lookAfter_39 (fun M_25 hP _ x25 => ?_)
  have ha := x25.k (k := 1) hT25 ha
  refine z_aload_n dX1_lookAfter_42 rfl 0 rfl ?_
  refine z_aload_n dX1_lookAfter_43 rfl 0 rfl ?_
  refine z_getr (c := 1) (k := 3) (g := 131) (t := 8) z_cb1 (Nat.le_of_ble_eq_true rfl) (Nat.le_of_ble_eq_true rfl) rfl rfl zw_428 rfl ha dX1_lookAfter_44 (fun f26 => ?_)
  refine z_wts (fun hT27 _ => ?_)
  refine z_cVv (c := 1) (n := 1) (Y1 := Y_X1_probeInTime) (st := []) rfl ha z_cb1 (Nat.le_of_ble_eq_true rfl) rfl (s_X1_probeInTime ha f26 hP) rfl ⟨z_dc_X1_probeInTime, ⟨(Nat.le_of_ble_eq_true rfl), (Nat.le_of_ble_eq_true rfl)⟩, (Nat.le_of_ble_eq_true rfl)⟩ rfl zw_1040 zw_1042 zp_23 zw_9 zw_1043 dX1_lookAfter_47 (fun M_27 hP _ x27 => ?_)
  have ha := x27.k (k := 1) hT27 ha
  refine z_sub (lv' := [(0, z_O _)]) [0] rfl ?_
  exact v_X1_lookAfter_50  ha hP
set_option maxRecDepth 100000 in
set_option maxHeartbeats 4000000 in
theorem s_X1_lookAfter {G : z_G} {M : z_Mem} {a : Nat} {Post : z_Mem → Prop} (ha : z_ki M a = 2) (hP : P_X1_lookAfter a M Post) : z_Mt G Y_X1_lookAfter M [z_O (some a)] (z_PV Post) := by
  refine z_ofV (by decide) (Nat.le_of_ble_eq_true rfl) ?_
  unfold P_X1_lookAfter at hP
  refine z_sub (lv' := [(0, z_O (some a))]) [0] rfl ?_
  refine z_aload_n dX1_lookAfter_0 rfl 0 rfl ?_
  refine z_geti (c := 1) (k := 7) (g := 135) z_cb1 (Nat.le_of_ble_eq_true rfl) (Nat.le_of_ble_eq_true rfl) rfl (Nat.le_of_ble_eq_true rfl) zw_433 rfl ha dX1_lookAfter_1 ?_
  refine z_iconst (v := 1) dX1_lookAfter_4 (by decide) ?_
  refine z_icmp_eq (tgt := 16) dX1_lookAfter_5 (by decide) (fun h29 => ?_) (fun h29 => ?_)
  · replace hP := hP.1 h29
    refine z_sub (lv' := [(0, z_O _)]) [0] rfl ?_
    exact v_X1_lookAfter_16  ha hP
  · replace hP := hP.2 h29
    refine z_aload_n dX1_lookAfter_8 rfl 0 rfl ?_
    refine z_geti (c := 1) (k := 7) (g := 135) z_cb1 (Nat.le_of_ble_eq_true rfl) (Nat.le_of_ble_eq_true rfl) rfl (Nat.le_of_ble_eq_true rfl) zw_433 rfl ha dX1_lookAfter_9 ?_
    refine z_iconst (v := 2) dX1_lookAfter_12 (by decide) ?_
    refine z_pc (pc' := 13) rfl ?_
    refine z_icmp_ne (tgt := 50) dX1_lookAfter_13 (by decide) (fun h31 => ?_) (fun h31 => ?_)
    · replace hP := hP.2 h31
      refine z_sub (lv' := [(0, z_O _)]) [0] rfl ?_
      exact v_X1_lookAfter_50  ha hP
    · replace hP := hP.1 h31
      refine z_sub (lv' := [(0, z_O _)]) [0] rfl ?_
      exact v_X1_lookAfter_16  ha hP
set_option maxRecDepth 100000 in
def P_X7_mostPerTick (a : Nat) (M : z_Mem) (Post : Int32 → z_Mem → Prop) : Prop := z_nn (z_fr M 897 a) fun a2 => (∀ x_4 : Int32, x_4 = (((z_fi M 257 a2) / 16) * 2) → (∀ x_6 : Int32, x_6 = ((if 1 < ((z_fi M 900 a) / 8) then ((z_fi M 900 a) / 8) else 1) : Int32) → (¬ x_6 = 0 ∧ (Post ((if 2 < (((x_4 + x_6) - 1) / x_6) then (((x_4 + x_6) - 1) / x_6) else 2) : Int32) M))))
set_option maxRecDepth 100000 in
set_option maxHeartbeats 4000000 in
theorem s_X7_mostPerTick {G : z_G} {M : z_Mem} {a : Nat} {Post : Int32 → z_Mem → Prop} (ha : z_ki M a = 8) (hP : P_X7_mostPerTick a M Post) : z_Mt G Y_X7_mostPerTick M [z_O (some a)] (z_PI Post) := by
  refine z_ofV (by decide) (Nat.le_of_ble_eq_true rfl) ?_
  unfold P_X7_mostPerTick at hP
  refine z_sub (lv' := [(0, z_O (some a))]) [0] rfl ?_
  refine z_aload_n dX7_mostPerTick_0 rfl 0 rfl ?_
  refine z_getr (c := 7) (k := 1) (g := 897) (t := 3) z_cb7 (Nat.le_of_ble_eq_true rfl) (Nat.le_of_ble_eq_true rfl) rfl rfl zw_351 rfl ha dX7_mostPerTick_1 (fun f1 => ?_)
  obtain ⟨a2, e2, hP⟩ := hP
  have k2 := f1 a2 e2
  refine z_geti (c := 2) (k := 1) (g := 257) z_cb2 (Nat.le_of_ble_eq_true rfl) (Nat.le_of_ble_eq_true rfl) rfl (Nat.le_of_ble_eq_true rfl) zw_313 e2 k2 dX7_mostPerTick_4 ?_
  refine z_bipush (v := 16) dX7_mostPerTick_7 (by decide) ?_
  refine z_idiv dX7_mostPerTick_9 (by decide) ?_
  refine z_iconst (v := 2) dX7_mostPerTick_10 (by decide) ?_
  refine z_pc (pc' := 11) rfl ?_
  refine z_imul dX7_mostPerTick_11 ?_
  refine z_topi (fun x_4 y_4 => ?_)
  replace hP := hP x_4 y_4
  refine z_istore_n (lv' := [(1, z_I _), (0, z_O _)]) dX7_mostPerTick_12 rfl (Nat.le_of_ble_eq_true rfl) rfl ?_
  refine z_iconst (v := 1) dX7_mostPerTick_13 (by decide) ?_
  refine z_aload_n dX7_mostPerTick_14 rfl 1 rfl ?_
  refine z_geti (c := 7) (k := 4) (g := 900) z_cb7 (Nat.le_of_ble_eq_true rfl) (Nat.le_of_ble_eq_true rfl) rfl (Nat.le_of_ble_eq_true rfl) zw_360 rfl ha dX7_mostPerTick_15 ?_
  refine z_bipush (v := 8) dX7_mostPerTick_18 (by decide) ?_
  refine z_pc (pc' := 20) rfl ?_
  refine z_idiv dX7_mostPerTick_20 (by decide) ?_
  refine z_mmax zw_1031 zw_102 zw_5 zw_103 dX7_mostPerTick_21 (Nat.le_of_ble_eq_true rfl) (Nat.le_of_ble_eq_true rfl) ?_
  refine z_topi (fun x_6 y_6 => ?_)
  replace hP := hP x_6 y_6
  refine z_istore_n (lv' := [(2, z_I _), (1, z_I _), (0, z_O _)]) dX7_mostPerTick_24 rfl (Nat.le_of_ble_eq_true rfl) rfl ?_
  refine z_iconst (v := 2) dX7_mostPerTick_25 (by decide) ?_
  refine z_iload_n dX7_mostPerTick_26 rfl 1 rfl ?_
  refine z_iload_n dX7_mostPerTick_27 rfl 0 rfl ?_
  refine z_pc (pc' := 28) rfl ?_
  refine z_iadd dX7_mostPerTick_28 ?_
  refine z_iconst (v := 1) dX7_mostPerTick_29 (by decide) ?_
  refine z_isub dX7_mostPerTick_30 ?_
  refine z_iload_n dX7_mostPerTick_31 rfl 0 rfl ?_
  obtain ⟨z7, hP⟩ := hP
  refine z_idiv dX7_mostPerTick_32 z7 ?_
  refine z_mmax zw_1031 zw_102 zw_5 zw_103 dX7_mostPerTick_33 (Nat.le_of_ble_eq_true rfl) (Nat.le_of_ble_eq_true rfl) ?_
  refine z_pc (pc' := 36) rfl ?_
  exact z_reti rfl dX7_mostPerTick_36 hP
set_option maxRecDepth 100000 in
def P_X7_canSend (a : Nat) (M : z_Mem) (Post : Int32 → z_Mem → Prop) : Prop := z_nn (z_fr M 897 a) fun a3 => ((((z_fi M 257 a3) < (((z_fi M 899 a) + 1) * 16) → Post 0 M) ∧ (¬ (z_fi M 257 a3) < (((z_fi M 899 a) + 1) * 16) → P_X7_mostPerTick a M fun x_7 M_7 => (((x_7 ≤ (z_fi M 909 a) → Post 0 M_7) ∧ (¬ x_7 ≤ (z_fi M 909 a) → Post 1 M_7))))))
set_option maxRecDepth 100000 in
set_option maxHeartbeats 4000000 in
theorem s_X7_canSend {G : z_G} {M : z_Mem} {a : Nat} {Post : Int32 → z_Mem → Prop} (ha : z_ki M a = 8) (hP : P_X7_canSend a M Post) : z_Mt G Y_X7_canSend M [z_O (some a)] (z_PB Post) := by
  refine z_ofV (by decide) (Nat.le_of_ble_eq_true rfl) ?_
  unfold P_X7_canSend at hP
  refine z_sub (lv' := [(0, z_O (some a))]) [0] rfl ?_
  refine z_aload_n dX7_canSend_0 rfl 0 rfl ?_
  refine z_geti (c := 7) (k := 3) (g := 899) z_cb7 (Nat.le_of_ble_eq_true rfl) (Nat.le_of_ble_eq_true rfl) rfl (Nat.le_of_ble_eq_true rfl) zw_357 rfl ha dX7_canSend_1 ?_
  refine z_iconst (v := 1) dX7_canSend_4 (by decide) ?_
  refine z_iadd dX7_canSend_5 ?_
  refine z_bipush (v := 16) dX7_canSend_6 (by decide) ?_
  refine z_imul dX7_canSend_8 ?_
  refine z_pc (pc' := 9) rfl ?_
  refine z_aload_n dX7_canSend_9 rfl 0 rfl ?_
  refine z_getr (c := 7) (k := 1) (g := 897) (t := 3) z_cb7 (Nat.le_of_ble_eq_true rfl) (Nat.le_of_ble_eq_true rfl) rfl rfl zw_351 rfl ha dX7_canSend_10 (fun f2 => ?_)
  obtain ⟨a3, e3, hP⟩ := hP
  have k3 := f2 a3 e3
  refine z_geti (c := 2) (k := 1) (g := 257) z_cb2 (Nat.le_of_ble_eq_true rfl) (Nat.le_of_ble_eq_true rfl) rfl (Nat.le_of_ble_eq_true rfl) zw_313 e3 k3 dX7_canSend_13 ?_
  refine z_icmp_gt (tgt := 34) dX7_canSend_16 (by decide) (fun h5 => ?_) (fun h5 => ?_)
  · replace hP := hP.1 h5
    refine z_iconst (v := 0) dX7_canSend_34 (by decide) ?_
    exact z_retb rfl (Or.inl rfl) dX7_canSend_35 hP
  · replace hP := hP.2 h5
    refine z_aload_n dX7_canSend_19 rfl 0 rfl ?_
    refine z_geti (c := 7) (k := 13) (g := 909) z_cb7 (Nat.le_of_ble_eq_true rfl) (Nat.le_of_ble_eq_true rfl) rfl (Nat.le_of_ble_eq_true rfl) zw_376 rfl ha dX7_canSend_20 ?_
    refine z_aload_n dX7_canSend_23 rfl 0 rfl ?_
    refine z_pc (pc' := 24) rfl ?_
    refine z_wts (fun hT7 _ => ?_)
    refine z_cVi (c := 7) (n := 0) (Y1 := Y_X7_mostPerTick) (st := [z_I _]) rfl ha z_cb7 (Nat.le_of_ble_eq_true rfl) rfl (s_X7_mostPerTick ha hP) rfl ⟨z_dc_X7_mostPerTick, ⟨(Nat.le_of_ble_eq_true rfl), (Nat.le_of_ble_eq_true rfl)⟩, (Nat.le_of_ble_eq_true rfl)⟩ rfl zw_1145 zw_1147 zp_26 zw_10 zw_1148 dX7_canSend_24 (fun x_7 M_7 hP _ x7 => ?_)
    have ha := x7.k (k := 7) hT7 ha
    refine z_icmp_ge (tgt := 34) dX7_canSend_27 (by decide) (fun h8 => ?_) (fun h8 => ?_)
    · replace hP := hP.1 h8
      refine z_iconst (v := 0) dX7_canSend_34 (by decide) ?_
      exact z_retb rfl (Or.inl rfl) dX7_canSend_35 hP
    · replace hP := hP.2 h8
      refine z_iconst (v := 1) dX7_canSend_30 (by decide) ?_
      refine z_goto (tgt := 35) dX7_canSend_31 (by decide) ?_
      exact z_retb rfl (Or.inr rfl) dX7_canSend_35 hP
def P_X1_routeToSend_84 (a : Nat) (Post : Option Nat → z_Mem → Prop)  (x1 : Int32) (x2 : Int32) (M : z_Mem) : Prop := ((x1 = 0 → ((x2 = 0 → Post none M) ∧ (¬ x2 = 0 → Post (z_fr M 131 a) M))) ∧ (¬ x1 = 0 → Post (z_fr M 130 a) M))
def P_X1_routeToSend_46 (a : Nat) (Post : Option Nat → z_Mem → Prop)  (x1 : Int32) (t0 : Int32) (M : z_Mem) : Prop := ((x1 = 0 → P_X1_routeToSend_84 a Post x1 t0 M) ∧ (¬ x1 = 0 → ((t0 = 0 → P_X1_routeToSend_84 a Post x1 t0 M) ∧ (¬ t0 = 0 → z_nn (z_fr M 131 a) fun a8 => (z_nn (z_fr M 130 a) fun a11 => ((((z_fi M 899 a11) ≤ (z_fi M 899 a8) → Post (z_fr M 130 a) M) ∧ (¬ (z_fi M 899 a11) ≤ (z_fi M 899 a8) → Post (z_fr M 131 a) M))))))))
def P_X1_routeToSend_45 (a : Nat) (Post : Option Nat → z_Mem → Prop)  (x1 : Int32) (M : z_Mem) : Prop := P_X1_routeToSend_46 a Post x1 0 M
def P_X1_routeToSend_23 (a : Nat) (Post : Option Nat → z_Mem → Prop)  (t0 : Int32) (M : z_Mem) : Prop := (((z_fi M 143 a) = 0 → P_X1_routeToSend_45 a Post t0 M) ∧ (¬ (z_fi M 143 a) = 0 → z_nn (z_fr M 131 a) fun a20 => (P_X7_canSend a20 M fun x_19 M_19 => (((x_19 = 0 → P_X1_routeToSend_45 a Post t0 M_19) ∧ (¬ x_19 = 0 → P_X1_routeToSend_46 a Post t0 1 M_19))))))
def P_X1_routeToSend_22 (a : Nat) (Post : Option Nat → z_Mem → Prop)  (M : z_Mem) : Prop := P_X1_routeToSend_23 a Post 0 M
set_option maxRecDepth 100000 in
def P_X1_routeToSend (a : Nat) (M : z_Mem) (Post : Option Nat → z_Mem → Prop) : Prop := (((z_fi M 143 a) = 1 → P_X1_routeToSend_22 a Post M) ∧ (¬ (z_fi M 143 a) = 1 → z_nn (z_fr M 130 a) fun a26 => (P_X7_canSend a26 M fun x_25 M_25 => (((x_25 = 0 → P_X1_routeToSend_22 a Post M_25) ∧ (¬ x_25 = 0 → P_X1_routeToSend_23 a Post 1 M_25))))))
set_option maxRecDepth 100000 in
set_option maxHeartbeats 4000000 in
theorem v_X1_routeToSend_84 {G : z_G} {M0 : z_Mem} {a : Nat} {Post : Option Nat → z_Mem → Prop}   {x1 : Int32} {x2 : Int32} {M : z_Mem} (ha : z_ki M a = 2) (f_x1 : x1 = 0 ∨ x1 = 1) (f_x2 : x2 = 0 ∨ x2 = 1) (hP : P_X1_routeToSend_84 a Post x1 x2 M) : z_V G Y_X1_routeToSend z_X0 M0 (z_QM G M0 (z_PO 8 Post)) M 84 [(0, z_O (some a)), (1, z_I x1), (2, z_I x2)] [] := by
  unfold P_X1_routeToSend_84 at hP
  refine z_iload_n dX1_routeToSend_84 rfl 1 rfl ?_
  refine z_if_eq (tgt := 93) dX1_routeToSend_85 (by decide) (fun h1 => ?_) (fun h1 => ?_)
  · replace hP := hP.1 h1
    refine z_iload_n dX1_routeToSend_93 rfl 2 rfl ?_
    refine z_if_eq (tgt := 104) dX1_routeToSend_94 (by decide) (fun h2 => ?_) (fun h2 => ?_)
    · replace hP := hP.1 h2
      refine z_null dX1_routeToSend_104 ?_
      exact z_reto (k := 8) rfl z_tr0 dX1_routeToSend_105 hP
    · replace hP := hP.2 h2
      refine z_aload_n dX1_routeToSend_97 rfl 0 rfl ?_
      refine z_getr (c := 1) (k := 3) (g := 131) (t := 8) z_cb1 (Nat.le_of_ble_eq_true rfl) (Nat.le_of_ble_eq_true rfl) rfl rfl zw_428 rfl ha dX1_routeToSend_98 (fun f3 => ?_)
      refine z_goto (tgt := 105) dX1_routeToSend_101 (by decide) ?_
      exact z_reto (k := 8) rfl f3 dX1_routeToSend_105 hP
  · replace hP := hP.2 h1
    refine z_aload_n dX1_routeToSend_88 rfl 0 rfl ?_
    refine z_getr (c := 1) (k := 2) (g := 130) (t := 8) z_cb1 (Nat.le_of_ble_eq_true rfl) (Nat.le_of_ble_eq_true rfl) rfl rfl zw_427 rfl ha dX1_routeToSend_89 (fun f4 => ?_)
    exact z_reto (k := 8) rfl f4 dX1_routeToSend_92 hP
set_option maxRecDepth 100000 in
set_option maxHeartbeats 4000000 in
theorem v_X1_routeToSend_46 {G : z_G} {M0 : z_Mem} {a : Nat} {Post : Option Nat → z_Mem → Prop}   {x1 : Int32} {t0 : Int32} {M : z_Mem} (ha : z_ki M a = 2) (f_x1 : x1 = 0 ∨ x1 = 1) (f_t0 : t0 = 0 ∨ t0 = 1) (hP : P_X1_routeToSend_46 a Post x1 t0 M) : z_V G Y_X1_routeToSend z_X0 M0 (z_QM G M0 (z_PO 8 Post)) M 46 [(0, z_O (some a)), (1, z_I x1)] [z_I t0] := by
  unfold P_X1_routeToSend_46 at hP
  refine z_istore_n (lv' := [(2, z_I _), (0, z_O _), (1, z_I _)]) dX1_routeToSend_46 rfl (Nat.le_of_ble_eq_true rfl) rfl ?_
  refine z_iload_n dX1_routeToSend_47 rfl 2 rfl ?_
  refine z_if_eq (tgt := 84) dX1_routeToSend_48 (by decide) (fun h5 => ?_) (fun h5 => ?_)
  · replace hP := hP.1 h5
    refine z_sub (lv' := [(0, z_O _), (1, z_I _), (2, z_I _)]) [1, 2, 0] rfl ?_
    exact v_X1_routeToSend_84  ha f_x1 f_t0 hP
  · replace hP := hP.2 h5
    refine z_iload_n dX1_routeToSend_51 rfl 0 rfl ?_
    refine z_if_eq (tgt := 84) dX1_routeToSend_52 (by decide) (fun h6 => ?_) (fun h6 => ?_)
    · replace hP := hP.1 h6
      refine z_sub (lv' := [(0, z_O _), (1, z_I _), (2, z_I _)]) [1, 2, 0] rfl ?_
      exact v_X1_routeToSend_84  ha f_x1 f_t0 hP
    · replace hP := hP.2 h6
      refine z_aload_n dX1_routeToSend_55 rfl 1 rfl ?_
      refine z_getr (c := 1) (k := 3) (g := 131) (t := 8) z_cb1 (Nat.le_of_ble_eq_true rfl) (Nat.le_of_ble_eq_true rfl) rfl rfl zw_428 rfl ha dX1_routeToSend_56 (fun f7 => ?_)
      obtain ⟨a8, e8, hP⟩ := hP
      have k8 := f7 a8 e8
      refine z_geti (c := 7) (k := 3) (g := 899) z_cb7 (Nat.le_of_ble_eq_true rfl) (Nat.le_of_ble_eq_true rfl) rfl (Nat.le_of_ble_eq_true rfl) zw_358 e8 k8 dX1_routeToSend_59 ?_
      refine z_pc (pc' := 62) rfl ?_
      refine z_aload_n dX1_routeToSend_62 rfl 1 rfl ?_
      refine z_getr (c := 1) (k := 2) (g := 130) (t := 8) z_cb1 (Nat.le_of_ble_eq_true rfl) (Nat.le_of_ble_eq_true rfl) rfl rfl zw_427 rfl ha dX1_routeToSend_63 (fun f10 => ?_)
      obtain ⟨a11, e11, hP⟩ := hP
      have k11 := f10 a11 e11
      refine z_geti (c := 7) (k := 3) (g := 899) z_cb7 (Nat.le_of_ble_eq_true rfl) (Nat.le_of_ble_eq_true rfl) rfl (Nat.le_of_ble_eq_true rfl) zw_358 e11 k11 dX1_routeToSend_66 ?_
      refine z_icmp_ge (tgt := 79) dX1_routeToSend_69 (by decide) (fun h13 => ?_) (fun h13 => ?_)
      · replace hP := hP.1 h13
        refine z_aload_n dX1_routeToSend_79 rfl 1 rfl ?_
        refine z_getr (c := 1) (k := 2) (g := 130) (t := 8) z_cb1 (Nat.le_of_ble_eq_true rfl) (Nat.le_of_ble_eq_true rfl) rfl rfl zw_427 rfl ha dX1_routeToSend_80 (fun f14 => ?_)
        exact z_reto (k := 8) rfl f14 dX1_routeToSend_83 hP
      · replace hP := hP.2 h13
        refine z_aload_n dX1_routeToSend_72 rfl 1 rfl ?_
        refine z_getr (c := 1) (k := 3) (g := 131) (t := 8) z_cb1 (Nat.le_of_ble_eq_true rfl) (Nat.le_of_ble_eq_true rfl) rfl rfl zw_428 rfl ha dX1_routeToSend_73 (fun f15 => ?_)
        refine z_goto (tgt := 83) dX1_routeToSend_76 (by decide) ?_
        exact z_reto (k := 8) rfl f15 dX1_routeToSend_83 hP
set_option maxRecDepth 100000 in
set_option maxHeartbeats 4000000 in
theorem v_X1_routeToSend_45 {G : z_G} {M0 : z_Mem} {a : Nat} {Post : Option Nat → z_Mem → Prop}   {x1 : Int32} {M : z_Mem} (ha : z_ki M a = 2) (f_x1 : x1 = 0 ∨ x1 = 1) (hP : P_X1_routeToSend_45 a Post x1 M) : z_V G Y_X1_routeToSend z_X0 M0 (z_QM G M0 (z_PO 8 Post)) M 45 [(0, z_O (some a)), (1, z_I x1)] [] := by
  unfold P_X1_routeToSend_45 at hP
  refine z_iconst (v := 0) dX1_routeToSend_45 (by decide) ?_
  refine z_sub (lv' := [(0, z_O _), (1, z_I _)]) [0, 1] rfl ?_
  exact v_X1_routeToSend_46  ha f_x1 (Or.inl rfl) hP
set_option maxRecDepth 100000 in
set_option maxHeartbeats 4000000 in
theorem v_X1_routeToSend_23 {G : z_G} {M0 : z_Mem} {a : Nat} {Post : Option Nat → z_Mem → Prop}   {t0 : Int32} {M : z_Mem} (ha : z_ki M a = 2) (f_t0 : t0 = 0 ∨ t0 = 1) (hP : P_X1_routeToSend_23 a Post t0 M) : z_V G Y_X1_routeToSend z_X0 M0 (z_QM G M0 (z_PO 8 Post)) M 23 [(0, z_O (some a))] [z_I t0] := by
  unfold P_X1_routeToSend_23 at hP
  refine z_istore_n (lv' := [(1, z_I _), (0, z_O _)]) dX1_routeToSend_23 rfl (Nat.le_of_ble_eq_true rfl) rfl ?_
  refine z_aload_n dX1_routeToSend_24 rfl 1 rfl ?_
  refine z_geti (c := 1) (k := 15) (g := 143) z_cb1 (Nat.le_of_ble_eq_true rfl) (Nat.le_of_ble_eq_true rfl) rfl (Nat.le_of_ble_eq_true rfl) zw_444 rfl ha dX1_routeToSend_25 ?_
  refine z_if_eq (tgt := 45) dX1_routeToSend_28 (by decide) (fun h17 => ?_) (fun h17 => ?_)
  · replace hP := hP.1 h17
    refine z_sub (lv' := [(0, z_O _), (1, z_I _)]) [1, 0] rfl ?_
    exact v_X1_routeToSend_45  ha f_t0 hP
  · replace hP := hP.2 h17
    refine z_aload_n dX1_routeToSend_31 rfl 1 rfl ?_
    refine z_getr (c := 1) (k := 3) (g := 131) (t := 8) z_cb1 (Nat.le_of_ble_eq_true rfl) (Nat.le_of_ble_eq_true rfl) rfl rfl zw_428 rfl ha dX1_routeToSend_32 (fun f18 => ?_)
    obtain ⟨a20, e20, hP⟩ := hP
    have k20 := f18 a20 e20
    refine z_wts (fun hT19 _ => ?_)
    refine z_cVb (c := 7) (n := 0) (Y1 := Y_X7_canSend) (st := []) e20 k20 z_cb7 (Nat.le_of_ble_eq_true rfl) rfl (s_X7_canSend k20 hP) rfl ⟨z_dc_X7_canSend, ⟨(Nat.le_of_ble_eq_true rfl), (Nat.le_of_ble_eq_true rfl)⟩, (Nat.le_of_ble_eq_true rfl)⟩ rfl zw_1141 zw_1142 zw_1143 zw_10 zw_1144 dX1_routeToSend_35 (fun x_19 M_19 b19 hP _ x19 => ?_)
    have ha := x19.k (k := 1) hT19 ha
    refine z_pc (pc' := 38) rfl ?_
    refine z_if_eq (tgt := 45) dX1_routeToSend_38 (by decide) (fun h21 => ?_) (fun h21 => ?_)
    · replace hP := hP.1 h21
      refine z_sub (lv' := [(0, z_O _), (1, z_I _)]) [1, 0] rfl ?_
      exact v_X1_routeToSend_45  ha f_t0 hP
    · replace hP := hP.2 h21
      refine z_iconst (v := 1) dX1_routeToSend_41 (by decide) ?_
      refine z_goto (tgt := 46) dX1_routeToSend_42 (by decide) ?_
      refine z_sub (lv' := [(0, z_O _), (1, z_I _)]) [1, 0] rfl ?_
      exact v_X1_routeToSend_46  ha f_t0 (Or.inr rfl) hP
set_option maxRecDepth 100000 in
set_option maxHeartbeats 4000000 in
theorem v_X1_routeToSend_22 {G : z_G} {M0 : z_Mem} {a : Nat} {Post : Option Nat → z_Mem → Prop}   {M : z_Mem} (ha : z_ki M a = 2) (hP : P_X1_routeToSend_22 a Post M) : z_V G Y_X1_routeToSend z_X0 M0 (z_QM G M0 (z_PO 8 Post)) M 22 [(0, z_O (some a))] [] := by
  unfold P_X1_routeToSend_22 at hP
  refine z_iconst (v := 0) dX1_routeToSend_22 (by decide) ?_
  refine z_sub (lv' := [(0, z_O _)]) [0] rfl ?_
  exact v_X1_routeToSend_23  ha (Or.inl rfl) hP
set_option maxRecDepth 100000 in
set_option maxHeartbeats 4000000 in
theorem s_X1_routeToSend {G : z_G} {M : z_Mem} {a : Nat} {Post : Option Nat → z_Mem → Prop} (ha : z_ki M a = 2) (hP : P_X1_routeToSend a M Post) : z_Mt G Y_X1_routeToSend M [z_O (some a)] (z_PO 8 Post) := by
  refine z_ofV (by decide) (Nat.le_of_ble_eq_true rfl) ?_
  unfold P_X1_routeToSend at hP
  refine z_sub (lv' := [(0, z_O (some a))]) [0] rfl ?_
  refine z_aload_n dX1_routeToSend_0 rfl 0 rfl ?_
  refine z_geti (c := 1) (k := 15) (g := 143) z_cb1 (Nat.le_of_ble_eq_true rfl) (Nat.le_of_ble_eq_true rfl) rfl (Nat.le_of_ble_eq_true rfl) zw_444 rfl ha dX1_routeToSend_1 ?_
  refine z_iconst (v := 1) dX1_routeToSend_4 (by decide) ?_
  refine z_icmp_eq (tgt := 22) dX1_routeToSend_5 (by decide) (fun h23 => ?_) (fun h23 => ?_)
  · replace hP := hP.1 h23
    refine z_sub (lv' := [(0, z_O _)]) [0] rfl ?_
    exact v_X1_routeToSend_22  ha hP
  · replace hP := hP.2 h23
    refine z_aload_n dX1_routeToSend_8 rfl 0 rfl ?_
    refine z_getr (c := 1) (k := 2) (g := 130) (t := 8) z_cb1 (Nat.le_of_ble_eq_true rfl) (Nat.le_of_ble_eq_true rfl) rfl rfl zw_427 rfl ha dX1_routeToSend_9 (fun f24 => ?_)
    obtain ⟨a26, e26, hP⟩ := hP
    have k26 := f24 a26 e26
    refine z_wts (fun hT25 _ => ?_)
    refine z_cVb (c := 7) (n := 0) (Y1 := Y_X7_canSend) (st := []) e26 k26 z_cb7 (Nat.le_of_ble_eq_true rfl) rfl (s_X7_canSend k26 hP) rfl ⟨z_dc_X7_canSend, ⟨(Nat.le_of_ble_eq_true rfl), (Nat.le_of_ble_eq_true rfl)⟩, (Nat.le_of_ble_eq_true rfl)⟩ rfl zw_1141 zw_1142 zw_1143 zw_10 zw_1144 dX1_routeToSend_12 (fun x_25 M_25 b25 hP _ x25 => ?_)
    have ha := x25.k (k := 1) hT25 ha
    refine z_pc (pc' := 15) rfl ?_
    refine z_if_eq (tgt := 22) dX1_routeToSend_15 (by decide) (fun h27 => ?_) (fun h27 => ?_)
    · replace hP := hP.1 h27
      refine z_sub (lv' := [(0, z_O _)]) [0] rfl ?_
      exact v_X1_routeToSend_22  ha hP
    · replace hP := hP.2 h27
      refine z_iconst (v := 1) dX1_routeToSend_18 (by decide) ?_
      refine z_goto (tgt := 23) dX1_routeToSend_19 (by decide) ?_
      refine z_sub (lv' := [(0, z_O _)]) [0] rfl ?_
      exact v_X1_routeToSend_23  ha (Or.inr rfl) hP
set_option maxRecDepth 100000 in
def P_X9_lowestLost_2 (a : Nat) (Post : Int32 → z_Mem → Prop)  : Nat → Int32 → z_Mem → Prop
  | 0, _, _ => False
  | n + 1, x1, M => ((200 ≤ x1 → Post x1 M) ∧ (¬ 200 ≤ x1 → P_X9_isLost a x1 M fun x_2 M_2 => (((x_2 = 0 → ∀ x_4 : Int32, x_4 = x1 + 1 → (P_X9_lowestLost_2 a Post n x_4 M_2)) ∧ (¬ x_2 = 0 → Post x1 M_2)))))
set_option maxRecDepth 100000 in
def P_X9_lowestLost (a : Nat) (M : z_Mem) (Post : Int32 → z_Mem → Prop) : Prop := (∃ n5 : Nat, P_X9_lowestLost_2 a Post n5 0 M)
set_option maxRecDepth 100000 in
set_option maxHeartbeats 4000000 in
theorem v_X9_lowestLost_2 {G : z_G} {M0 : z_Mem} {a : Nat} {Post : Int32 → z_Mem → Prop}   : ∀ (n : Nat) {x1 : Int32} {M : z_Mem}, (z_ki M a = 10) → P_X9_lowestLost_2 a Post n x1 M → z_V G Y_X9_lowestLost z_X0 M0 (z_QM G M0 (z_PI Post)) M 2 [(0, z_O (some a)), (1, z_I x1)] [] := by
  intro n
  induction n with
  | zero => intro x1 M ha hP; exact False.elim hP
  | succ n ih =>
    intro x1 M ha hP
    unfold P_X9_lowestLost_2 at hP
    refine z_iload_n dX9_lowestLost_2 rfl 1 rfl ?_
    refine z_sipush (v := 200) dX9_lowestLost_3 (by decide) ?_
    refine z_icmp_ge (tgt := 23) dX9_lowestLost_6 (by decide) (fun h1 => ?_) (fun h1 => ?_)
    · replace hP := hP.1 h1
      refine z_iload_n dX9_lowestLost_23 rfl 1 rfl ?_
      exact z_reti rfl dX9_lowestLost_24 hP
    · replace hP := hP.2 h1
      refine z_aload_n dX9_lowestLost_9 rfl 0 rfl ?_
      refine z_iload_n dX9_lowestLost_10 rfl 1 rfl ?_
      refine z_wts (fun hT2 _ => ?_)
      refine z_cVb (c := 9) (n := 1) (Y1 := Y_X9_isLost) (st := []) rfl ha z_cb9 (Nat.le_of_ble_eq_true rfl) rfl (s_X9_isLost ha hP) rfl ⟨z_dc_X9_isLost, ⟨(Nat.le_of_ble_eq_true rfl), (Nat.le_of_ble_eq_true rfl)⟩, (Nat.le_of_ble_eq_true rfl)⟩ rfl zw_951 zw_952 zw_953 zw_7 zw_954 dX9_lowestLost_11 (fun x_2 M_2 b2 hP _ x2 => ?_)
      have ha := x2.k (k := 9) hT2 ha
      refine z_if_ne (tgt := 23) dX9_lowestLost_14 (by decide) (fun h3 => ?_) (fun h3 => ?_)
      · replace hP := hP.2 h3
        refine z_iload_n dX9_lowestLost_23 rfl 1 rfl ?_
        refine z_pc (pc' := 24) rfl ?_
        exact z_reti rfl dX9_lowestLost_24 hP
      · replace hP := hP.1 h3
        refine z_iincN (j := 1) (m := 1) (lv' := fun v => [(1, z_I v), (0, z_O _)]) dX9_lowestLost_17 rfl (by decide) (Nat.le_of_ble_eq_true rfl) (fun _ => rfl) (fun x_4 y_4 => ?_)
        replace hP := hP x_4 y_4
        refine z_pc (pc' := 20) rfl ?_
        refine z_goto (tgt := 2) dX9_lowestLost_20 (by decide) ?_
        refine z_sub (lv' := [(0, z_O _), (1, z_I _)]) [1, 0] rfl ?_
        exact ih ha hP
set_option maxRecDepth 100000 in
set_option maxHeartbeats 4000000 in
theorem s_X9_lowestLost {G : z_G} {M : z_Mem} {a : Nat} {Post : Int32 → z_Mem → Prop} (ha : z_ki M a = 10) (hP : P_X9_lowestLost a M Post) : z_Mt G Y_X9_lowestLost M [z_O (some a)] (z_PI Post) := by
  refine z_ofV (by decide) (Nat.le_of_ble_eq_true rfl) ?_
  unfold P_X9_lowestLost at hP
  refine z_sub (lv' := [(0, z_O (some a))]) [0] rfl ?_
  refine z_iconst (v := 0) dX9_lowestLost_0 (by decide) ?_
  refine z_istore_n (lv' := [(1, z_I _), (0, z_O _)]) dX9_lowestLost_1 rfl (Nat.le_of_ble_eq_true rfl) rfl ?_
  obtain ⟨n5, hP⟩ := hP
  refine z_sub (lv' := [(0, z_O _), (1, z_I _)]) [1, 0] rfl ?_
  exact v_X9_lowestLost_2  n5 ha hP
set_option maxRecDepth 100000 in
def P_X9_lostInARow_2 (a : Nat) (Post : Int32 → z_Mem → Prop)  : Nat → Int32 → Int32 → z_Mem → Prop
  | 0, _, _, _ => False
  | n + 1, x1, x2, M => ((10 ≤ x2 → Post x2 M) ∧ (¬ 10 ≤ x2 → P_X9_isLost a (x1 + x2) M fun x_2 M_2 => (((x_2 = 0 → Post x2 M_2) ∧ (¬ x_2 = 0 → ∀ x_4 : Int32, x_4 = x2 + 1 → (P_X9_lostInARow_2 a Post n x1 x_4 M_2))))))
set_option maxRecDepth 100000 in
def P_X9_lostInARow (a : Nat) (p1 : Int32) (M : z_Mem) (Post : Int32 → z_Mem → Prop) : Prop := (∃ n5 : Nat, P_X9_lostInARow_2 a Post n5 p1 0 M)
set_option maxRecDepth 100000 in
set_option maxHeartbeats 4000000 in
theorem v_X9_lostInARow_2 {G : z_G} {M0 : z_Mem} {a : Nat} {Post : Int32 → z_Mem → Prop}   : ∀ (n : Nat) {x1 : Int32} {x2 : Int32} {M : z_Mem}, (z_ki M a = 10) → P_X9_lostInARow_2 a Post n x1 x2 M → z_V G Y_X9_lostInARow z_X0 M0 (z_QM G M0 (z_PI Post)) M 2 [(0, z_O (some a)), (1, z_I x1), (2, z_I x2)] [] := by
  intro n
  induction n with
  | zero => intro x1 x2 M ha hP; exact False.elim hP
  | succ n ih =>
    intro x1 x2 M ha hP
    unfold P_X9_lostInARow_2 at hP
    refine z_iload_n dX9_lostInARow_2 rfl 2 rfl ?_
    refine z_bipush (v := 10) dX9_lostInARow_3 (by decide) ?_
    refine z_icmp_ge (tgt := 24) dX9_lostInARow_5 (by decide) (fun h1 => ?_) (fun h1 => ?_)
    · replace hP := hP.1 h1
      refine z_iload_n dX9_lostInARow_24 rfl 2 rfl ?_
      exact z_reti rfl dX9_lostInARow_25 hP
    · replace hP := hP.2 h1
      refine z_aload_n dX9_lostInARow_8 rfl 0 rfl ?_
      refine z_iload_n dX9_lostInARow_9 rfl 1 rfl ?_
      refine z_iload_n dX9_lostInARow_10 rfl 2 rfl ?_
      refine z_iadd dX9_lostInARow_11 ?_
      refine z_pc (pc' := 12) rfl ?_
      refine z_wts (fun hT2 _ => ?_)
      refine z_cVb (c := 9) (n := 1) (Y1 := Y_X9_isLost) (st := []) rfl ha z_cb9 (Nat.le_of_ble_eq_true rfl) rfl (s_X9_isLost ha hP) rfl ⟨z_dc_X9_isLost, ⟨(Nat.le_of_ble_eq_true rfl), (Nat.le_of_ble_eq_true rfl)⟩, (Nat.le_of_ble_eq_true rfl)⟩ rfl zw_951 zw_952 zw_953 zw_7 zw_954 dX9_lostInARow_12 (fun x_2 M_2 b2 hP _ x2 => ?_)
      have ha := x2.k (k := 9) hT2 ha
      refine z_if_eq (tgt := 24) dX9_lostInARow_15 (by decide) (fun h3 => ?_) (fun h3 => ?_)
      · replace hP := hP.1 h3
        refine z_iload_n dX9_lostInARow_24 rfl 2 rfl ?_
        exact z_reti rfl dX9_lostInARow_25 hP
      · replace hP := hP.2 h3
        refine z_iincN (j := 2) (m := 1) (lv' := fun v => [(2, z_I v), (0, z_O _), (1, z_I _)]) dX9_lostInARow_18 rfl (by decide) (Nat.le_of_ble_eq_true rfl) (fun _ => rfl) (fun x_4 y_4 => ?_)
        replace hP := hP x_4 y_4
        refine z_goto (tgt := 2) dX9_lostInARow_21 (by decide) ?_
        refine z_sub (lv' := [(0, z_O _), (1, z_I _), (2, z_I _)]) [1, 2, 0] rfl ?_
        exact ih ha hP
set_option maxRecDepth 100000 in
set_option maxHeartbeats 4000000 in
theorem s_X9_lostInARow {G : z_G} {M : z_Mem} {a : Nat} {p1 : Int32} {Post : Int32 → z_Mem → Prop} (ha : z_ki M a = 10) (hP : P_X9_lostInARow a p1 M Post) : z_Mt G Y_X9_lostInARow M [z_O (some a), z_I p1] (z_PI Post) := by
  refine z_ofV (by decide) (Nat.le_of_ble_eq_true rfl) ?_
  unfold P_X9_lostInARow at hP
  refine z_sub (lv' := [(0, z_O (some a)), (1, z_I p1)]) [0, 1] rfl ?_
  refine z_iconst (v := 0) dX9_lostInARow_0 (by decide) ?_
  refine z_istore_n (lv' := [(2, z_I _), (0, z_O _), (1, z_I _)]) dX9_lostInARow_1 rfl (Nat.le_of_ble_eq_true rfl) rfl ?_
  obtain ⟨n5, hP⟩ := hP
  refine z_sub (lv' := [(0, z_O _), (1, z_I _), (2, z_I _)]) [1, 2, 0] rfl ?_
  exact v_X9_lostInARow_2  n5 ha hP
set_option maxRecDepth 100000 in
def P_X1_sendLost_2 (a : Nat) (Post : Int32 → z_Mem → Prop)  : Nat → Option Nat → Int32 → z_Mem → Prop
  | 0, _, _, _ => False
  | n + 1, x1, x2, M => ((4 ≤ x2 → Post 0 M) ∧ (¬ 4 ≤ x2 → z_nn (z_fr M 129 a) fun a3 => (vp_in x2 (z_ln M a3) ∧ (z_nn (z_ar M a3 ((x2 : Int32).toNatClampNeg)) fun a5 => ((((z_fi M 1155 a5) ≤ 0 → ∀ x_8 : Int32, x_8 = x2 + 1 → (P_X1_sendLost_2 a Post n x1 x_8 M)) ∧ (¬ (z_fi M 1155 a5) ≤ 0 → z_nn (z_fr M 129 a) fun a10 => (vp_in x2 (z_ln M a10) ∧ (z_nn (z_ar M a10 ((x2 : Int32).toNatClampNeg)) fun a13 => (P_X9_lowestLost a13 M fun x_12 M_12 => (z_nn (z_fr M_12 129 a) fun a15 => (vp_in x2 (z_ln M_12 a15) ∧ (z_nn (z_ar M_12 a15 ((x2 : Int32).toNatClampNeg)) fun a18 => (P_X9_lostInARow a18 x_12 M_12 fun x_17 M_17 => (P_X1_sendPacket a x1 x2 x_12 x_17 0 M_17 fun M_19 => (Post 1 M_19))))))))))))))))
set_option maxRecDepth 100000 in
def P_X1_sendLost (a : Nat) (p1 : Option Nat) (M : z_Mem) (Post : Int32 → z_Mem → Prop) : Prop := (∃ n20 : Nat, P_X1_sendLost_2 a Post n20 p1 0 M)
set_option maxRecDepth 100000 in
set_option maxHeartbeats 4000000 in
theorem v_X1_sendLost_2 {G : z_G} {M0 : z_Mem} {a : Nat} {Post : Int32 → z_Mem → Prop}   : ∀ (n : Nat) {x1 : Option Nat} {x2 : Int32} {M : z_Mem}, (z_ki M a = 2) → (z_tr M x1 8) → P_X1_sendLost_2 a Post n x1 x2 M → z_V G Y_X1_sendLost z_X0 M0 (z_QM G M0 (z_PB Post)) M 2 [(0, z_O (some a)), (1, z_O x1), (2, z_I x2)] [] := by
  intro n
  induction n with
  | zero => intro x1 x2 M ha f_x1 hP; exact False.elim hP
  | succ n ih =>
    intro x1 x2 M ha f_x1 hP
    unfold P_X1_sendLost_2 at hP
    refine z_iload_n dX1_sendLost_2 rfl 2 rfl ?_
    refine z_iconst (v := 4) dX1_sendLost_3 (by decide) ?_
    refine z_icmp_ge (tgt := 55) dX1_sendLost_4 (by decide) (fun h1 => ?_) (fun h1 => ?_)
    · replace hP := hP.1 h1
      refine z_iconst (v := 0) dX1_sendLost_55 (by decide) ?_
      exact z_retb rfl (Or.inl rfl) dX1_sendLost_56 hP
    · replace hP := hP.2 h1
      refine z_aload_n dX1_sendLost_7 rfl 0 rfl ?_
      refine z_getr (c := 1) (k := 1) (g := 129) (t := 24) z_cb1 (Nat.le_of_ble_eq_true rfl) (Nat.le_of_ble_eq_true rfl) rfl rfl zw_426 rfl ha dX1_sendLost_8 (fun f2 => ?_)
      refine z_iload_n dX1_sendLost_11 rfl 2 rfl ?_
      obtain ⟨a3, e3, hP⟩ := hP
      have k3 := f2 a3 e3
      obtain ⟨i4, hP⟩ := hP
      refine z_aald (t := 24) e3 k3 (Nat.le_of_ble_eq_true rfl) (Nat.le_of_ble_eq_true rfl) i4 dX1_sendLost_12 (fun f4 => ?_)
      refine z_pc (pc' := 13) rfl ?_
      obtain ⟨a5, e5, hP⟩ := hP
      have k5 := f4 a5 e5
      refine z_geti (c := 9) (k := 3) (g := 1155) z_cb9 (Nat.le_of_ble_eq_true rfl) (Nat.le_of_ble_eq_true rfl) rfl (Nat.le_of_ble_eq_true rfl) zw_197 e5 k5 dX1_sendLost_13 ?_
      refine z_if_le (tgt := 49) dX1_sendLost_16 (by decide) (fun h7 => ?_) (fun h7 => ?_)
      · replace hP := hP.1 h7
        refine z_iincN (j := 2) (m := 1) (lv' := fun v => [(2, z_I v), (0, z_O _), (1, z_O _)]) dX1_sendLost_49 rfl (by decide) (Nat.le_of_ble_eq_true rfl) (fun _ => rfl) (fun x_8 y_8 => ?_)
        replace hP := hP x_8 y_8
        refine z_goto (tgt := 2) dX1_sendLost_52 (by decide) ?_
        refine z_sub (lv' := [(0, z_O _), (1, z_O _), (2, z_I _)]) [1, 2, 0] rfl ?_
        exact ih ha f_x1 hP
      · replace hP := hP.2 h7
        refine z_aload_n dX1_sendLost_19 rfl 0 rfl ?_
        refine z_getr (c := 1) (k := 1) (g := 129) (t := 24) z_cb1 (Nat.le_of_ble_eq_true rfl) (Nat.le_of_ble_eq_true rfl) rfl rfl zw_426 rfl ha dX1_sendLost_20 (fun f9 => ?_)
        refine z_iload_n dX1_sendLost_23 rfl 2 rfl ?_
        obtain ⟨a10, e10, hP⟩ := hP
        have k10 := f9 a10 e10
        obtain ⟨i11, hP⟩ := hP
        refine z_aald (t := 24) e10 k10 (Nat.le_of_ble_eq_true rfl) (Nat.le_of_ble_eq_true rfl) i11 dX1_sendLost_24 (fun f11 => ?_)
        obtain ⟨a13, e13, hP⟩ := hP
        have k13 := f11 a13 e13
        refine z_wts (fun hT12 _ => ?_)
        refine z_cVi (c := 9) (n := 0) (Y1 := Y_X9_lowestLost) (st := []) e13 k13 z_cb9 (Nat.le_of_ble_eq_true rfl) rfl (s_X9_lowestLost k13 hP) rfl ⟨z_dc_X9_lowestLost, ⟨(Nat.le_of_ble_eq_true rfl), (Nat.le_of_ble_eq_true rfl)⟩, (Nat.le_of_ble_eq_true rfl)⟩ rfl zw_1153 zw_1154 zw_1155 zw_7 zw_1156 dX1_sendLost_25 (fun x_12 M_12 hP _ x12 => ?_)
        have ha := x12.k (k := 1) hT12 ha
        have f_x1 := x12.t (k := 7) hT12 f_x1
        refine z_pc (pc' := 28) rfl ?_
        refine z_istore_n (lv' := [(3, z_I _), (0, z_O _), (1, z_O _), (2, z_I _)]) dX1_sendLost_28 rfl (Nat.le_of_ble_eq_true rfl) rfl ?_
        refine z_aload_n dX1_sendLost_29 rfl 1 rfl ?_
        refine z_aload_n dX1_sendLost_30 rfl 2 rfl ?_
        refine z_iload_n dX1_sendLost_31 rfl 3 rfl ?_
        refine z_iload_n dX1_sendLost_32 rfl 0 rfl ?_
        refine z_aload_n dX1_sendLost_33 rfl 1 rfl ?_
        refine z_pc (pc' := 34) rfl ?_
        refine z_getr (c := 1) (k := 1) (g := 129) (t := 24) z_cb1 (Nat.le_of_ble_eq_true rfl) (Nat.le_of_ble_eq_true rfl) rfl rfl zw_426 rfl ha dX1_sendLost_34 (fun f14 => ?_)
        refine z_iload_n dX1_sendLost_37 rfl 3 rfl ?_
        obtain ⟨a15, e15, hP⟩ := hP
        have k15 := f14 a15 e15
        obtain ⟨i16, hP⟩ := hP
        refine z_aald (t := 24) e15 k15 (Nat.le_of_ble_eq_true rfl) (Nat.le_of_ble_eq_true rfl) i16 dX1_sendLost_38 (fun f16 => ?_)
        refine z_iload_n dX1_sendLost_39 rfl 0 rfl ?_
        obtain ⟨a18, e18, hP⟩ := hP
        have k18 := f16 a18 e18
        refine z_wts (fun hT17 _ => ?_)
        refine z_cVi (c := 9) (n := 1) (Y1 := Y_X9_lostInARow) (st := [z_I _, z_I _, z_O _, z_O _]) e18 k18 z_cb9 (Nat.le_of_ble_eq_true rfl) rfl (s_X9_lostInARow k18 hP) rfl ⟨z_dc_X9_lostInARow, ⟨(Nat.le_of_ble_eq_true rfl), (Nat.le_of_ble_eq_true rfl)⟩, (Nat.le_of_ble_eq_true rfl)⟩ rfl zw_1157 zw_1158 zw_1159 zw_7 zw_1160 dX1_sendLost_40 (fun x_17 M_17 hP _ x17 => ?_)
        have ha := x17.k (k := 1) hT17 ha
        have f_x1 := x17.t (k := 7) hT17 f_x1
        refine z_iconst (v := 0) dX1_sendLost_43 (by decide) ?_
        refine z_pc (pc' := 44) rfl ?_
        refine z_wts (fun hT19 _ => ?_)
        refine z_cVv (c := 1) (n := 5) (Y1 := Y_X1_sendPacket) (st := []) rfl ha z_cb1 (Nat.le_of_ble_eq_true rfl) rfl (s_X1_sendPacket ha f_x1 (Or.inl rfl) hP) rfl ⟨z_dc_X1_sendPacket, ⟨(Nat.le_of_ble_eq_true rfl), (Nat.le_of_ble_eq_true rfl)⟩, (Nat.le_of_ble_eq_true rfl)⟩ rfl zw_1048 zw_1050 zp_24 zw_9 zw_1051 dX1_sendLost_44 (fun M_19 hP _ x19 => ?_)
        have ha := x19.k (k := 1) hT19 ha
        have f_x1 := x19.t (k := 7) hT19 f_x1
        refine z_iconst (v := 1) dX1_sendLost_47 (by decide) ?_
        exact z_retb rfl (Or.inr rfl) dX1_sendLost_48 hP
set_option maxRecDepth 100000 in
set_option maxHeartbeats 4000000 in
theorem s_X1_sendLost {G : z_G} {M : z_Mem} {a : Nat} {p1 : Option Nat} {Post : Int32 → z_Mem → Prop} (ha : z_ki M a = 2) (f_p1 : z_tr M p1 8) (hP : P_X1_sendLost a p1 M Post) : z_Mt G Y_X1_sendLost M [z_O (some a), z_O p1] (z_PB Post) := by
  refine z_ofV (by decide) (Nat.le_of_ble_eq_true rfl) ?_
  unfold P_X1_sendLost at hP
  refine z_sub (lv' := [(0, z_O (some a)), (1, z_O p1)]) [0, 1] rfl ?_
  refine z_iconst (v := 0) dX1_sendLost_0 (by decide) ?_
  refine z_istore_n (lv' := [(2, z_I _), (0, z_O _), (1, z_O _)]) dX1_sendLost_1 rfl (Nat.le_of_ble_eq_true rfl) rfl ?_
  obtain ⟨n20, hP⟩ := hP
  refine z_sub (lv' := [(0, z_O _), (1, z_O _), (2, z_I _)]) [1, 2, 0] rfl ?_
  exact v_X1_sendLost_2  n20 ha f_p1 hP
set_option maxRecDepth 100000 in
def P_X9_canSendAnew (a : Nat) (p1 : Int32) (M : z_Mem) (Post : Int32 → z_Mem → Prop) : Prop := ∀ x_4 : Int32, x_4 = ((if p1 < (((if (z_fi M 1156 a) < (z_fi M 1152 a) then (z_fi M 1156 a) else (z_fi M 1152 a)) : Int32) - (z_fi M 1153 a)) then p1 else (((if (z_fi M 1156 a) < (z_fi M 1152 a) then (z_fi M 1156 a) else (z_fi M 1152 a)) : Int32) - (z_fi M 1153 a))) : Int32) → (Post ((if 0 < ((if 10 < x_4 then 10 else x_4) : Int32) then ((if 10 < x_4 then 10 else x_4) : Int32) else 0) : Int32) M)
set_option maxRecDepth 100000 in
set_option maxHeartbeats 4000000 in
theorem s_X9_canSendAnew {G : z_G} {M : z_Mem} {a : Nat} {p1 : Int32} {Post : Int32 → z_Mem → Prop} (ha : z_ki M a = 10) (hP : P_X9_canSendAnew a p1 M Post) : z_Mt G Y_X9_canSendAnew M [z_O (some a), z_I p1] (z_PI Post) := by
  refine z_ofV (by decide) (Nat.le_of_ble_eq_true rfl) ?_
  unfold P_X9_canSendAnew at hP
  refine z_sub (lv' := [(0, z_O (some a)), (1, z_I p1)]) [0, 1] rfl ?_
  refine z_aload_n dX9_canSendAnew_0 rfl 0 rfl ?_
  refine z_geti (c := 9) (k := 0) (g := 1152) z_cb9 (Nat.le_of_ble_eq_true rfl) (Nat.le_of_ble_eq_true rfl) rfl (Nat.le_of_ble_eq_true rfl) zw_188 rfl ha dX9_canSendAnew_1 ?_
  refine z_aload_n dX9_canSendAnew_4 rfl 0 rfl ?_
  refine z_geti (c := 9) (k := 4) (g := 1156) z_cb9 (Nat.le_of_ble_eq_true rfl) (Nat.le_of_ble_eq_true rfl) rfl (Nat.le_of_ble_eq_true rfl) zw_198 rfl ha dX9_canSendAnew_5 ?_
  refine z_mmin zw_1169 zw_692 zw_5 zw_693 dX9_canSendAnew_8 (Nat.le_of_ble_eq_true rfl) (Nat.le_of_ble_eq_true rfl) ?_
  refine z_aload_n dX9_canSendAnew_11 rfl 0 rfl ?_
  refine z_pc (pc' := 12) rfl ?_
  refine z_geti (c := 9) (k := 1) (g := 1153) z_cb9 (Nat.le_of_ble_eq_true rfl) (Nat.le_of_ble_eq_true rfl) rfl (Nat.le_of_ble_eq_true rfl) zw_190 rfl ha dX9_canSendAnew_12 ?_
  refine z_isub dX9_canSendAnew_15 ?_
  refine z_iload_n dX9_canSendAnew_16 rfl 1 rfl ?_
  refine z_mmin zw_1169 zw_692 zw_5 zw_693 dX9_canSendAnew_17 (Nat.le_of_ble_eq_true rfl) (Nat.le_of_ble_eq_true rfl) ?_
  refine z_topi (fun x_4 y_4 => ?_)
  replace hP := hP x_4 y_4
  refine z_istore_n (lv' := [(2, z_I _), (0, z_O _), (1, z_I _)]) dX9_canSendAnew_20 rfl (Nat.le_of_ble_eq_true rfl) rfl ?_
  refine z_iconst (v := 0) dX9_canSendAnew_21 (by decide) ?_
  refine z_pc (pc' := 22) rfl ?_
  refine z_iload_n dX9_canSendAnew_22 rfl 0 rfl ?_
  refine z_bipush (v := 10) dX9_canSendAnew_23 (by decide) ?_
  refine z_mmin zw_1169 zw_692 zw_5 zw_693 dX9_canSendAnew_25 (Nat.le_of_ble_eq_true rfl) (Nat.le_of_ble_eq_true rfl) ?_
  refine z_mmax zw_950 zw_102 zw_5 zw_103 dX9_canSendAnew_28 (Nat.le_of_ble_eq_true rfl) (Nat.le_of_ble_eq_true rfl) ?_
  exact z_reti rfl dX9_canSendAnew_31 hP
set_option maxRecDepth 100000 in
def P_X1_sendNew_32 (a : Nat) (Post : Int32 → z_Mem → Prop)  : Nat → Option Nat → Int32 → Int32 → z_Mem → Prop
  | 0, _, _, _, _ => False
  | n + 1, x1, x2, x3, M => ((4 < x3 → Post 0 M) ∧ (¬ 4 < x3 → ∀ x_3 : Int32, x_3 = (((z_fi M 145 a) + x3) - ((z_fi M 145 a) + x3) / 4 * 4) → (z_nn (z_fr M 129 a) fun a5 => (vp_in x_3 (z_ln M a5) ∧ (z_nn (z_ar M a5 ((x_3 : Int32).toNatClampNeg)) fun a8 => (P_X9_canSendAnew a8 x2 M fun x_7 M_7 => (((x_7 ≤ 0 → ∀ x_10 : Int32, x_10 = x3 + 1 → (P_X1_sendNew_32 a Post n x1 x2 x_10 M_7)) ∧ (¬ x_7 ≤ 0 → ∀ M_11 : z_Mem, M_11 = z_sfi M_7 145 a x_3 → (z_nn (z_fr M_11 129 a) fun a13 => (vp_in x_3 (z_ln M_11 a13) ∧ (z_nn (z_ar M_11 a13 ((x_3 : Int32).toNatClampNeg)) fun a15 => (P_X1_sendPacket a x1 x_3 (z_fi M_11 1153 a15) x_7 0 M_11 fun M_17 => (Post 1 M_17))))))))))))))
set_option maxRecDepth 100000 in
def P_X1_sendNew_7 (a : Nat) (Post : Int32 → z_Mem → Prop)  : Nat → Option Nat → Int32 → Int32 → z_Mem → Prop
  | 0, _, _, _, _ => False
  | n + 1, x1, x2, x3, M => ((4 ≤ x3 → (∃ n19 : Nat, P_X1_sendNew_32 a Post n19 x1 x2 1 M)) ∧ (¬ 4 ≤ x3 → z_nn (z_fr M 129 a) fun a21 => (vp_in x3 (z_ln M a21) ∧ (z_nn (z_ar M a21 ((x3 : Int32).toNatClampNeg)) fun a23 => (∀ x_25 : Int32, x_25 = (x2 - (z_fi M 1153 a23)) → (∀ x_26 : Int32, x_26 = x3 + 1 → (P_X1_sendNew_7 a Post n x1 x_25 x_26 M)))))))
set_option maxRecDepth 100000 in
def P_X1_sendNew (a : Nat) (p1 : Option Nat) (M : z_Mem) (Post : Int32 → z_Mem → Prop) : Prop := ∀ x_28 : Int32, x_28 = (z_fi M 144 a) → ((∃ n29 : Nat, P_X1_sendNew_7 a Post n29 p1 x_28 0 M))
set_option maxRecDepth 100000 in
set_option maxHeartbeats 4000000 in
theorem v_X1_sendNew_32 {G : z_G} {M0 : z_Mem} {a : Nat} {Post : Int32 → z_Mem → Prop}   : ∀ (n : Nat) {x1 : Option Nat} {x2 : Int32} {x3 : Int32} {M : z_Mem}, (z_ki M a = 2) → (z_tr M x1 8) → P_X1_sendNew_32 a Post n x1 x2 x3 M → z_V G Y_X1_sendNew z_X0 M0 (z_QM G M0 (z_PB Post)) M 32 [(0, z_O (some a)), (1, z_O x1), (2, z_I x2), (3, z_I x3)] [] := by
  intro n
  induction n with
  | zero => intro x1 x2 x3 M ha f_x1 hP; exact False.elim hP
  | succ n ih =>
    intro x1 x2 x3 M ha f_x1 hP
    unfold P_X1_sendNew_32 at hP
    refine z_iload_n dX1_sendNew_32 rfl 3 rfl ?_
    refine z_iconst (v := 4) dX1_sendNew_33 (by decide) ?_
    refine z_icmp_gt (tgt := 99) dX1_sendNew_34 (by decide) (fun h1 => ?_) (fun h1 => ?_)
    · replace hP := hP.1 h1
      refine z_iconst (v := 0) dX1_sendNew_99 (by decide) ?_
      exact z_retb rfl (Or.inl rfl) dX1_sendNew_100 hP
    · replace hP := hP.2 h1
      refine z_aload_n dX1_sendNew_37 rfl 0 rfl ?_
      refine z_geti (c := 1) (k := 17) (g := 145) z_cb1 (Nat.le_of_ble_eq_true rfl) (Nat.le_of_ble_eq_true rfl) rfl (Nat.le_of_ble_eq_true rfl) zw_448 rfl ha dX1_sendNew_38 ?_
      refine z_iload_n dX1_sendNew_41 rfl 3 rfl ?_
      refine z_iadd dX1_sendNew_42 ?_
      refine z_pc (pc' := 43) rfl ?_
      refine z_iconst (v := 4) dX1_sendNew_43 (by decide) ?_
      refine z_irem dX1_sendNew_44 (by decide) ?_
      refine z_topi (fun x_3 y_3 => ?_)
      replace hP := hP x_3 y_3
      refine z_istore (lv' := [(4, z_I _), (0, z_O _), (1, z_O _), (2, z_I _), (3, z_I _)]) dX1_sendNew_45 (Nat.le_of_ble_eq_true rfl) rfl ?_
      refine z_aload_n dX1_sendNew_47 rfl 1 rfl ?_
      refine z_getr (c := 1) (k := 1) (g := 129) (t := 24) z_cb1 (Nat.le_of_ble_eq_true rfl) (Nat.le_of_ble_eq_true rfl) rfl rfl zw_426 rfl ha dX1_sendNew_48 (fun f4 => ?_)
      refine z_iload dX1_sendNew_51 0 rfl ?_
      refine z_pc (pc' := 53) rfl ?_
      obtain ⟨a5, e5, hP⟩ := hP
      have k5 := f4 a5 e5
      obtain ⟨i6, hP⟩ := hP
      refine z_aald (t := 24) e5 k5 (Nat.le_of_ble_eq_true rfl) (Nat.le_of_ble_eq_true rfl) i6 dX1_sendNew_53 (fun f6 => ?_)
      refine z_iload_n dX1_sendNew_54 rfl 3 rfl ?_
      obtain ⟨a8, e8, hP⟩ := hP
      have k8 := f6 a8 e8
      refine z_wts (fun hT7 _ => ?_)
      refine z_cVi (c := 9) (n := 1) (Y1 := Y_X9_canSendAnew) (st := []) e8 k8 z_cb9 (Nat.le_of_ble_eq_true rfl) rfl (s_X9_canSendAnew k8 hP) rfl ⟨z_dc_X9_canSendAnew, ⟨(Nat.le_of_ble_eq_true rfl), (Nat.le_of_ble_eq_true rfl)⟩, (Nat.le_of_ble_eq_true rfl)⟩ rfl zw_1165 zw_1166 zw_1167 zw_7 zw_1168 dX1_sendNew_55 (fun x_7 M_7 hP _ x7 => ?_)
      have ha := x7.k (k := 1) hT7 ha
      have f_x1 := x7.t (k := 7) hT7 f_x1
      refine z_istore (lv' := [(5, z_I _), (4, z_I _), (0, z_O _), (1, z_O _), (2, z_I _), (3, z_I _)]) dX1_sendNew_58 (Nat.le_of_ble_eq_true rfl) rfl ?_
      refine z_iload dX1_sendNew_60 0 rfl ?_
      refine z_if_le (tgt := 93) dX1_sendNew_62 (by decide) (fun h9 => ?_) (fun h9 => ?_)
      · replace hP := hP.1 h9
        refine z_iincN (j := 5) (m := 1) (lv' := fun v => [(3, z_I v), (5, z_I _), (4, z_I _), (0, z_O _), (1, z_O _), (2, z_I _)]) dX1_sendNew_93 rfl (by decide) (Nat.le_of_ble_eq_true rfl) (fun _ => rfl) (fun x_10 y_10 => ?_)
        replace hP := hP x_10 y_10
        refine z_pc (pc' := 96) rfl ?_
        refine z_goto (tgt := 32) dX1_sendNew_96 (by decide) ?_
        refine z_sub (lv' := [(0, z_O _), (1, z_O _), (2, z_I _), (3, z_I _)]) [3, 4, 5, 0] rfl ?_
        exact ih ha f_x1 hP
      · replace hP := hP.2 h9
        refine z_aload_n dX1_sendNew_65 rfl 2 rfl ?_
        refine z_pc (pc' := 66) rfl ?_
        refine z_iload dX1_sendNew_66 1 rfl ?_
        refine z_puti (c := 1) (k := 17) (g := 145) z_cb1 (Nat.le_of_ble_eq_true rfl) (Nat.le_of_ble_eq_true rfl) (Nat.le_of_ble_eq_true rfl) rfl rfl rfl zw_448 rfl ha (Or.inl rfl) dX1_sendNew_68 ?_
        refine z_nm (fun M_11 g_11 => ?_)
        replace hP := hP M_11 g_11
        have q_11 := z_k1 g_11
        have ha := z_kk q_11 ha
        have f_x1 := z_trk q_11 f_x1
        refine z_aload_n dX1_sendNew_71 rfl 2 rfl ?_
        refine z_aload_n dX1_sendNew_72 rfl 3 rfl ?_
        refine z_iload dX1_sendNew_73 1 rfl ?_
        refine z_aload_n dX1_sendNew_75 rfl 2 rfl ?_
        refine z_pc (pc' := 76) rfl ?_
        refine z_getr (c := 1) (k := 1) (g := 129) (t := 24) z_cb1 (Nat.le_of_ble_eq_true rfl) (Nat.le_of_ble_eq_true rfl) rfl rfl zw_426 rfl ha dX1_sendNew_76 (fun f12 => ?_)
        refine z_iload dX1_sendNew_79 1 rfl ?_
        obtain ⟨a13, e13, hP⟩ := hP
        have k13 := f12 a13 e13
        obtain ⟨i14, hP⟩ := hP
        refine z_aald (t := 24) e13 k13 (Nat.le_of_ble_eq_true rfl) (Nat.le_of_ble_eq_true rfl) i14 dX1_sendNew_81 (fun f14 => ?_)
        obtain ⟨a15, e15, hP⟩ := hP
        have k15 := f14 a15 e15
        refine z_geti (c := 9) (k := 1) (g := 1153) z_cb9 (Nat.le_of_ble_eq_true rfl) (Nat.le_of_ble_eq_true rfl) rfl (Nat.le_of_ble_eq_true rfl) zw_192 e15 k15 dX1_sendNew_82 ?_
        refine z_iload dX1_sendNew_85 0 rfl ?_
        refine z_iconst (v := 0) dX1_sendNew_87 (by decide) ?_
        refine z_pc (pc' := 88) rfl ?_
        refine z_wts (fun hT17 _ => ?_)
        refine z_cVv (c := 1) (n := 5) (Y1 := Y_X1_sendPacket) (st := []) rfl ha z_cb1 (Nat.le_of_ble_eq_true rfl) rfl (s_X1_sendPacket ha f_x1 (Or.inl rfl) hP) rfl ⟨z_dc_X1_sendPacket, ⟨(Nat.le_of_ble_eq_true rfl), (Nat.le_of_ble_eq_true rfl)⟩, (Nat.le_of_ble_eq_true rfl)⟩ rfl zw_1048 zw_1050 zp_24 zw_9 zw_1051 dX1_sendNew_88 (fun M_17 hP _ x17 => ?_)
        have ha := x17.k (k := 1) hT17 ha
        have f_x1 := x17.t (k := 7) hT17 f_x1
        refine z_iconst (v := 1) dX1_sendNew_91 (by decide) ?_
        exact z_retb rfl (Or.inr rfl) dX1_sendNew_92 hP
set_option maxRecDepth 100000 in
set_option maxHeartbeats 4000000 in
theorem v_X1_sendNew_7 {G : z_G} {M0 : z_Mem} {a : Nat} {Post : Int32 → z_Mem → Prop}   : ∀ (n : Nat) {x1 : Option Nat} {x2 : Int32} {x3 : Int32} {M : z_Mem}, (z_ki M a = 2) → (z_tr M x1 8) → P_X1_sendNew_7 a Post n x1 x2 x3 M → z_V G Y_X1_sendNew z_X0 M0 (z_QM G M0 (z_PB Post)) M 7 [(0, z_O (some a)), (1, z_O x1), (2, z_I x2), (3, z_I x3)] [] := by
  intro n
  induction n with
  | zero => intro x1 x2 x3 M ha f_x1 hP; exact False.elim hP
  | succ n ih =>
    intro x1 x2 x3 M ha f_x1 hP
    unfold P_X1_sendNew_7 at hP
    refine z_iload_n dX1_sendNew_7 rfl 3 rfl ?_
    refine z_iconst (v := 4) dX1_sendNew_8 (by decide) ?_
    refine z_icmp_ge (tgt := 30) dX1_sendNew_9 (by decide) (fun h18 => ?_) (fun h18 => ?_)
    · replace hP := hP.1 h18
      refine z_iconst (v := 1) dX1_sendNew_30 (by decide) ?_
      refine z_istore_n (lv' := [(3, z_I _), (0, z_O _), (1, z_O _), (2, z_I _)]) dX1_sendNew_31 rfl (Nat.le_of_ble_eq_true rfl) rfl ?_
      obtain ⟨n19, hP⟩ := hP
      refine z_sub (lv' := [(0, z_O _), (1, z_O _), (2, z_I _), (3, z_I _)]) [1, 2, 3, 0] rfl ?_
      exact v_X1_sendNew_32  n19 ha f_x1 hP
    · replace hP := hP.2 h18
      refine z_iload_n dX1_sendNew_12 rfl 2 rfl ?_
      refine z_aload_n dX1_sendNew_13 rfl 0 rfl ?_
      refine z_getr (c := 1) (k := 1) (g := 129) (t := 24) z_cb1 (Nat.le_of_ble_eq_true rfl) (Nat.le_of_ble_eq_true rfl) rfl rfl zw_426 rfl ha dX1_sendNew_14 (fun f20 => ?_)
      refine z_iload_n dX1_sendNew_17 rfl 3 rfl ?_
      refine z_pc (pc' := 18) rfl ?_
      obtain ⟨a21, e21, hP⟩ := hP
      have k21 := f20 a21 e21
      obtain ⟨i22, hP⟩ := hP
      refine z_aald (t := 24) e21 k21 (Nat.le_of_ble_eq_true rfl) (Nat.le_of_ble_eq_true rfl) i22 dX1_sendNew_18 (fun f22 => ?_)
      obtain ⟨a23, e23, hP⟩ := hP
      have k23 := f22 a23 e23
      refine z_geti (c := 9) (k := 1) (g := 1153) z_cb9 (Nat.le_of_ble_eq_true rfl) (Nat.le_of_ble_eq_true rfl) rfl (Nat.le_of_ble_eq_true rfl) zw_192 e23 k23 dX1_sendNew_19 ?_
      refine z_isub dX1_sendNew_22 ?_
      refine z_topi (fun x_25 y_25 => ?_)
      replace hP := hP x_25 y_25
      refine z_istore_n (lv' := [(2, z_I _), (0, z_O _), (1, z_O _), (3, z_I _)]) dX1_sendNew_23 rfl (Nat.le_of_ble_eq_true rfl) rfl ?_
      refine z_iincN (j := 3) (m := 1) (lv' := fun v => [(3, z_I v), (2, z_I _), (0, z_O _), (1, z_O _)]) dX1_sendNew_24 rfl (by decide) (Nat.le_of_ble_eq_true rfl) (fun _ => rfl) (fun x_26 y_26 => ?_)
      replace hP := hP x_26 y_26
      refine z_goto (tgt := 7) dX1_sendNew_27 (by decide) ?_
      refine z_sub (lv' := [(0, z_O _), (1, z_O _), (2, z_I _), (3, z_I _)]) [2, 3, 1, 0] rfl ?_
      exact ih ha f_x1 hP
set_option maxRecDepth 100000 in
set_option maxHeartbeats 4000000 in
theorem s_X1_sendNew {G : z_G} {M : z_Mem} {a : Nat} {p1 : Option Nat} {Post : Int32 → z_Mem → Prop} (ha : z_ki M a = 2) (f_p1 : z_tr M p1 8) (hP : P_X1_sendNew a p1 M Post) : z_Mt G Y_X1_sendNew M [z_O (some a), z_O p1] (z_PB Post) := by
  refine z_ofV (by decide) (Nat.le_of_ble_eq_true rfl) ?_
  unfold P_X1_sendNew at hP
  refine z_sub (lv' := [(0, z_O (some a)), (1, z_O p1)]) [0, 1] rfl ?_
  refine z_aload_n dX1_sendNew_0 rfl 0 rfl ?_
  refine z_geti (c := 1) (k := 16) (g := 144) z_cb1 (Nat.le_of_ble_eq_true rfl) (Nat.le_of_ble_eq_true rfl) rfl (Nat.le_of_ble_eq_true rfl) zw_446 rfl ha dX1_sendNew_1 ?_
  refine z_topi (fun x_28 y_28 => ?_)
  replace hP := hP x_28 y_28
  refine z_istore_n (lv' := [(2, z_I _), (0, z_O _), (1, z_O _)]) dX1_sendNew_4 rfl (Nat.le_of_ble_eq_true rfl) rfl ?_
  refine z_iconst (v := 0) dX1_sendNew_5 (by decide) ?_
  refine z_istore_n (lv' := [(3, z_I _), (2, z_I _), (0, z_O _), (1, z_O _)]) dX1_sendNew_6 rfl (Nat.le_of_ble_eq_true rfl) rfl ?_
  obtain ⟨n29, hP⟩ := hP
  refine z_sub (lv' := [(0, z_O _), (1, z_O _), (2, z_I _), (3, z_I _)]) [2, 3, 1, 0] rfl ?_
  exact v_X1_sendNew_7  n29 ha f_p1 hP
def P_X1_sendData_81 (a : Nat) (Post : z_Mem → Prop) (J46 : Int32 → z_Mem → Prop) (x1 : Int32) (x2 : Option Nat) (M : z_Mem) : Prop := z_nn x2 fun a1 => (∀ M_3 : z_Mem, M_3 = z_sfi M 909 a1 ((z_fi M 909 a1) + 1) → (∀ x_4 : Int32, x_4 = x1 + 1 → (J46 x_4 M_3)))
set_option maxRecDepth 100000 in
def P_X1_sendData_46 (a : Nat) (Post : z_Mem → Prop)  : Nat → Int32 → z_Mem → Prop
  | 0, _, _ => False
  | n + 1, x1, M => ((400 ≤ x1 → Post M) ∧ (¬ 400 ≤ x1 → P_X1_routeToSend a M fun x_6 M_6 => (((x_6 = none → Post M_6) ∧ (∀ a7 : Nat, x_6 = some a7 → P_X1_sendLost a x_6 M_6 fun x_8 M_8 => (((x_8 = 0 → P_X1_sendNew a x_6 M_8 fun x_10 M_10 => (((x_10 = 0 → Post M_10) ∧ (¬ x_10 = 0 → P_X1_sendData_81 a Post (fun q0 qM => P_X1_sendData_46 a Post n q0 qM) x1 x_6 M_10)))) ∧ (¬ x_8 = 0 → P_X1_sendData_81 a Post (fun q0 qM => P_X1_sendData_46 a Post n q0 qM) x1 x_6 M_8))))))))
def P_X1_sendData_41 (a : Nat) (Post : z_Mem → Prop)  (M : z_Mem) : Prop := ∀ x_13 : Int32, x_13 = (z_fi M 133 a) → ((∃ n14 : Nat, P_X1_sendData_46 a Post n14 x_13 M))
set_option maxRecDepth 100000 in
def P_X1_sendData (a : Nat) (M : z_Mem) (Post : z_Mem → Prop) : Prop := z_nn (z_fr M 130 a) fun a16 => (∀ M_17 : z_Mem, M_17 = z_sfi M 909 a16 0 → (z_nn (z_fr M_17 131 a) fun a19 => (∀ M_20 : z_Mem, M_20 = z_sfi M_17 909 a19 0 → ((((z_fi M_20 135 a) = 2 → P_X1_sendData_41 a Post M_20) ∧ (¬ (z_fi M_20 135 a) = 2 → (((z_fi M_20 135 a) = 1 → (((z_fi M_20 136 a) = (-1) → Post M_20) ∧ (¬ (z_fi M_20 136 a) = (-1) → P_X1_sendData_41 a Post M_20))) ∧ (¬ (z_fi M_20 135 a) = 1 → Post M_20))))))))
set_option maxRecDepth 100000 in
set_option maxHeartbeats 4000000 in
theorem v_X1_sendData_81 {G : z_G} {M0 : z_Mem} {a : Nat} {Post : z_Mem → Prop} {J46 : Int32 → z_Mem → Prop} (hJ46 : ∀ (x1 : Int32) (M : z_Mem), (z_ki M a = 2) → J46 x1 M → z_V G Y_X1_sendData z_X0 M0 (z_QM G M0 (z_PV Post)) M 46 [(0, z_O (some a)), (1, z_I x1)] []) {x1 : Int32} {x2 : Option Nat} {M : z_Mem} (ha : z_ki M a = 2) (f_x2 : z_tr M x2 8) (hP : P_X1_sendData_81 a Post J46 x1 x2 M) : z_V G Y_X1_sendData z_X0 M0 (z_QM G M0 (z_PV Post)) M 81 [(0, z_O (some a)), (1, z_I x1), (2, z_O x2)] [] := by
  unfold P_X1_sendData_81 at hP
  refine z_aload_n dX1_sendData_81 rfl 2 rfl ?_
  refine z_dup dX1_sendData_82 rfl ?_
  obtain ⟨a1, e1, hP⟩ := hP
  have k1 := f_x2 a1 e1
  refine z_geti (c := 7) (k := 13) (g := 909) z_cb7 (Nat.le_of_ble_eq_true rfl) (Nat.le_of_ble_eq_true rfl) rfl (Nat.le_of_ble_eq_true rfl) zw_377 e1 k1 dX1_sendData_83 ?_
  refine z_iconst (v := 1) dX1_sendData_86 (by decide) ?_
  refine z_iadd dX1_sendData_87 ?_
  refine z_puti (c := 7) (k := 13) (g := 909) z_cb7 (Nat.le_of_ble_eq_true rfl) (Nat.le_of_ble_eq_true rfl) (Nat.le_of_ble_eq_true rfl) rfl rfl rfl zw_377 e1 k1 (Or.inl rfl) dX1_sendData_88 ?_
  refine z_nm (fun M_3 g_3 => ?_)
  replace hP := hP M_3 g_3
  have q_3 := z_k1 g_3
  have ha := z_kk q_3 ha
  have k1 := z_kk q_3 k1
  refine z_pc (pc' := 91) rfl ?_
  refine z_iincN (j := 1) (m := 1) (lv' := fun v => [(1, z_I v), (0, z_O _), (2, z_O _)]) dX1_sendData_91 rfl (by decide) (Nat.le_of_ble_eq_true rfl) (fun _ => rfl) (fun x_4 y_4 => ?_)
  replace hP := hP x_4 y_4
  refine z_goto (tgt := 46) dX1_sendData_94 (by decide) ?_
  refine z_sub (lv' := [(0, z_O _), (1, z_I _)]) [1, 0] rfl ?_
  exact hJ46 _ _ ha hP
set_option maxRecDepth 100000 in
set_option maxHeartbeats 4000000 in
theorem v_X1_sendData_46 {G : z_G} {M0 : z_Mem} {a : Nat} {Post : z_Mem → Prop}   : ∀ (n : Nat) {x1 : Int32} {M : z_Mem}, (z_ki M a = 2) → P_X1_sendData_46 a Post n x1 M → z_V G Y_X1_sendData z_X0 M0 (z_QM G M0 (z_PV Post)) M 46 [(0, z_O (some a)), (1, z_I x1)] [] := by
  intro n
  induction n with
  | zero => intro x1 M ha hP; exact False.elim hP
  | succ n ih =>
    intro x1 M ha hP
    unfold P_X1_sendData_46 at hP
    refine z_iload_n dX1_sendData_46 rfl 1 rfl ?_
    refine z_sipush (v := 400) dX1_sendData_47 (by decide) ?_
    refine z_icmp_ge (tgt := 97) dX1_sendData_50 (by decide) (fun h5 => ?_) (fun h5 => ?_)
    · replace hP := hP.1 h5
      exact z_retv rfl dX1_sendData_97 hP
    · replace hP := hP.2 h5
      refine z_aload_n dX1_sendData_53 rfl 0 rfl ?_
      refine z_wts (fun hT6 _ => ?_)
      refine z_cVo (c := 1) (n := 0) (Y1 := Y_X1_routeToSend) (st := []) rfl ha z_cb1 (Nat.le_of_ble_eq_true rfl) rfl (s_X1_routeToSend ha hP) rfl ⟨z_dc_X1_routeToSend, ⟨(Nat.le_of_ble_eq_true rfl), (Nat.le_of_ble_eq_true rfl)⟩, (Nat.le_of_ble_eq_true rfl)⟩ rfl zw_1137 zw_1139 zp_25 zw_9 zw_1140 dX1_sendData_54 (fun x_6 M_6 f6 hP _ x6 => ?_)
      have ha := x6.k (k := 1) hT6 ha
      refine z_astore_n (lv' := [(2, z_O _), (0, z_O _), (1, z_I _)]) dX1_sendData_57 rfl (Nat.le_of_ble_eq_true rfl) rfl ?_
      refine z_aload_n dX1_sendData_58 rfl 0 rfl ?_
      refine z_pc (pc' := 59) rfl ?_
      refine z_ifnull (tgt := 97) dX1_sendData_59 (by decide) (fun h7 => ?_) (fun a7 e7 => ?_)
      · replace hP := hP.1 h7
        exact z_retv rfl dX1_sendData_97 hP
      · replace hP := hP.2 a7 e7
        have k7 := f6 a7 e7
        refine z_aload_n dX1_sendData_62 rfl 1 rfl ?_
        refine z_aload_n dX1_sendData_63 rfl 0 rfl ?_
        refine z_wts (fun hT8 _ => ?_)
        refine z_cVb (c := 1) (n := 1) (Y1 := Y_X1_sendLost) (st := []) rfl ha z_cb1 (Nat.le_of_ble_eq_true rfl) rfl (s_X1_sendLost ha (z_trn e7 k7) hP) rfl ⟨z_dc_X1_sendLost, ⟨(Nat.le_of_ble_eq_true rfl), (Nat.le_of_ble_eq_true rfl)⟩, (Nat.le_of_ble_eq_true rfl)⟩ rfl zw_1149 zw_1151 zp_27 zw_9 zw_1152 dX1_sendData_64 (fun x_8 M_8 b8 hP _ x8 => ?_)
        have ha := x8.k (k := 1) hT8 ha
        have k7 := x8.k (k := 7) hT8 k7
        refine z_if_ne (tgt := 81) dX1_sendData_67 (by decide) (fun h9 => ?_) (fun h9 => ?_)
        · replace hP := hP.2 h9
          refine z_sub (lv' := [(0, z_O _), (1, z_I _), (2, z_O _)]) [1, 2, 0] rfl ?_
          exact v_X1_sendData_81 (fun _ _ w0 hP => ih w0 hP) ha (z_trn e7 k7) hP
        · replace hP := hP.1 h9
          refine z_aload_n dX1_sendData_70 rfl 1 rfl ?_
          refine z_aload_n dX1_sendData_71 rfl 0 rfl ?_
          refine z_wts (fun hT10 _ => ?_)
          refine z_cVb (c := 1) (n := 1) (Y1 := Y_X1_sendNew) (st := []) rfl ha z_cb1 (Nat.le_of_ble_eq_true rfl) rfl (s_X1_sendNew ha (z_trn e7 k7) hP) rfl ⟨z_dc_X1_sendNew, ⟨(Nat.le_of_ble_eq_true rfl), (Nat.le_of_ble_eq_true rfl)⟩, (Nat.le_of_ble_eq_true rfl)⟩ rfl zw_1161 zw_1163 zp_28 zw_9 zw_1164 dX1_sendData_72 (fun x_10 M_10 b10 hP _ x10 => ?_)
          have ha := x10.k (k := 1) hT10 ha
          have k7 := x10.k (k := 7) hT10 k7
          refine z_pc (pc' := 75) rfl ?_
          refine z_if_ne (tgt := 81) dX1_sendData_75 (by decide) (fun h11 => ?_) (fun h11 => ?_)
          · replace hP := hP.2 h11
            refine z_sub (lv' := [(0, z_O _), (1, z_I _), (2, z_O _)]) [1, 2, 0] rfl ?_
            exact v_X1_sendData_81 (fun _ _ w0 hP => ih w0 hP) ha (z_trn e7 k7) hP
          · replace hP := hP.1 h11
            refine z_goto (tgt := 97) dX1_sendData_78 (by decide) ?_
            exact z_retv rfl dX1_sendData_97 hP
set_option maxRecDepth 100000 in
set_option maxHeartbeats 4000000 in
theorem v_X1_sendData_41 {G : z_G} {M0 : z_Mem} {a : Nat} {Post : z_Mem → Prop}   {M : z_Mem} (ha : z_ki M a = 2) (hP : P_X1_sendData_41 a Post M) : z_V G Y_X1_sendData z_X0 M0 (z_QM G M0 (z_PV Post)) M 41 [(0, z_O (some a))] [] := by
  unfold P_X1_sendData_41 at hP
  refine z_aload_n dX1_sendData_41 rfl 0 rfl ?_
  refine z_geti (c := 1) (k := 5) (g := 133) z_cb1 (Nat.le_of_ble_eq_true rfl) (Nat.le_of_ble_eq_true rfl) rfl (Nat.le_of_ble_eq_true rfl) zw_430 rfl ha dX1_sendData_42 ?_
  refine z_topi (fun x_13 y_13 => ?_)
  replace hP := hP x_13 y_13
  refine z_istore_n (lv' := [(1, z_I _), (0, z_O _)]) dX1_sendData_45 rfl (Nat.le_of_ble_eq_true rfl) rfl ?_
  obtain ⟨n14, hP⟩ := hP
  refine z_sub (lv' := [(0, z_O _), (1, z_I _)]) [1, 0] rfl ?_
  exact v_X1_sendData_46  n14 ha hP
set_option maxRecDepth 100000 in
set_option maxHeartbeats 4000000 in
theorem s_X1_sendData {G : z_G} {M : z_Mem} {a : Nat} {Post : z_Mem → Prop} (ha : z_ki M a = 2) (hP : P_X1_sendData a M Post) : z_Mt G Y_X1_sendData M [z_O (some a)] (z_PV Post) := by
  refine z_ofV (by decide) (Nat.le_of_ble_eq_true rfl) ?_
  unfold P_X1_sendData at hP
  refine z_sub (lv' := [(0, z_O (some a))]) [0] rfl ?_
  refine z_aload_n dX1_sendData_0 rfl 0 rfl ?_
  refine z_getr (c := 1) (k := 2) (g := 130) (t := 8) z_cb1 (Nat.le_of_ble_eq_true rfl) (Nat.le_of_ble_eq_true rfl) rfl rfl zw_427 rfl ha dX1_sendData_1 (fun f15 => ?_)
  refine z_iconst (v := 0) dX1_sendData_4 (by decide) ?_
  obtain ⟨a16, e16, hP⟩ := hP
  have k16 := f15 a16 e16
  refine z_puti (c := 7) (k := 13) (g := 909) z_cb7 (Nat.le_of_ble_eq_true rfl) (Nat.le_of_ble_eq_true rfl) (Nat.le_of_ble_eq_true rfl) rfl rfl rfl zw_377 e16 k16 (Or.inl rfl) dX1_sendData_5 ?_
  refine z_nm (fun M_17 g_17 => ?_)
  replace hP := hP M_17 g_17
  have q_17 := z_k1 g_17
  have ha := z_kk q_17 ha
  refine z_aload_n dX1_sendData_8 rfl 0 rfl ?_
  refine z_getr (c := 1) (k := 3) (g := 131) (t := 8) z_cb1 (Nat.le_of_ble_eq_true rfl) (Nat.le_of_ble_eq_true rfl) rfl rfl zw_428 rfl ha dX1_sendData_9 (fun f18 => ?_)
  refine z_pc (pc' := 12) rfl ?_
  refine z_iconst (v := 0) dX1_sendData_12 (by decide) ?_
  obtain ⟨a19, e19, hP⟩ := hP
  have k19 := f18 a19 e19
  refine z_puti (c := 7) (k := 13) (g := 909) z_cb7 (Nat.le_of_ble_eq_true rfl) (Nat.le_of_ble_eq_true rfl) (Nat.le_of_ble_eq_true rfl) rfl rfl rfl zw_377 e19 k19 (Or.inl rfl) dX1_sendData_13 ?_
  refine z_nm (fun M_20 g_20 => ?_)
  replace hP := hP M_20 g_20
  have q_20 := z_k1 g_20
  have ha := z_kk q_20 ha
  refine z_aload_n dX1_sendData_16 rfl 0 rfl ?_
  refine z_geti (c := 1) (k := 7) (g := 135) z_cb1 (Nat.le_of_ble_eq_true rfl) (Nat.le_of_ble_eq_true rfl) rfl (Nat.le_of_ble_eq_true rfl) zw_433 rfl ha dX1_sendData_17 ?_
  refine z_iconst (v := 2) dX1_sendData_20 (by decide) ?_
  refine z_icmp_eq (tgt := 41) dX1_sendData_21 (by decide) (fun h22 => ?_) (fun h22 => ?_)
  · replace hP := hP.1 h22
    refine z_sub (lv' := [(0, z_O _)]) [0] rfl ?_
    exact v_X1_sendData_41  ha hP
  · replace hP := hP.2 h22
    refine z_aload_n dX1_sendData_24 rfl 0 rfl ?_
    refine z_pc (pc' := 25) rfl ?_
    refine z_geti (c := 1) (k := 7) (g := 135) z_cb1 (Nat.le_of_ble_eq_true rfl) (Nat.le_of_ble_eq_true rfl) rfl (Nat.le_of_ble_eq_true rfl) zw_433 rfl ha dX1_sendData_25 ?_
    refine z_iconst (v := 1) dX1_sendData_28 (by decide) ?_
    refine z_icmp_ne (tgt := 40) dX1_sendData_29 (by decide) (fun h24 => ?_) (fun h24 => ?_)
    · replace hP := hP.2 h24
      exact z_retv rfl dX1_sendData_40 hP
    · replace hP := hP.1 h24
      refine z_aload_n dX1_sendData_32 rfl 0 rfl ?_
      refine z_geti (c := 1) (k := 8) (g := 136) z_cb1 (Nat.le_of_ble_eq_true rfl) (Nat.le_of_ble_eq_true rfl) rfl (Nat.le_of_ble_eq_true rfl) zw_435 rfl ha dX1_sendData_33 ?_
      refine z_iconst (v := (-1)) dX1_sendData_36 (by decide) ?_
      refine z_icmp_ne (tgt := 41) dX1_sendData_37 (by decide) (fun h26 => ?_) (fun h26 => ?_)
      · replace hP := hP.2 h26
        refine z_sub (lv' := [(0, z_O _)]) [0] rfl ?_
        exact v_X1_sendData_41  ha hP
      · replace hP := hP.1 h26
        exact z_retv rfl dX1_sendData_40 hP
set_option maxRecDepth 100000 in
def P_X3_init (a : Nat) (M : z_Mem) (Post : z_Mem → Prop) : Prop := ∀ M_1 : z_Mem, M_1 = z_sfi M 384 a 5 → (∀ M_2 : z_Mem, M_2 = z_sfi M_1 385 a 2 → (∀ M_3 : z_Mem, M_3 = z_sfi M_2 386 a 8 → (∀ M_4 : z_Mem, M_4 = z_sfi M_3 387 a 6 → (∀ M_5 : z_Mem, M_5 = z_sfi M_4 388 a 1 → (z_room M_5 30 ∧ (∀ M_7 : z_Mem, M_7 = z_nwa M_5 22 30 → (∀ M_8 : z_Mem, M_8 = z_sfr M_7 393 a (some (z_sz M_5)) → (Post M_8))))))))
set_option maxRecDepth 100000 in
set_option maxHeartbeats 4000000 in
theorem s_X3_init {G : z_G} {M : z_Mem} {a : Nat} {Post : z_Mem → Prop} (ha : z_ki M a = 4) (hP : P_X3_init a M Post) : z_Mt G Y_X3_init M [z_O (some a)] (z_PV Post) := by
  refine z_ofV (by decide) (Nat.le_of_ble_eq_true rfl) ?_
  unfold P_X3_init at hP
  refine z_sub (lv' := [(0, z_O (some a))]) [0] rfl ?_
  refine z_aload_n dX3_init_0 rfl 0 rfl ?_
  refine z_objInit rfl zw_41 zw_28 zw_29 dX3_init_1 (Nat.le_of_ble_eq_true rfl) (Nat.le_of_ble_eq_true rfl) ?_
  refine z_aload_n dX3_init_4 rfl 0 rfl ?_
  refine z_iconst (v := 5) dX3_init_5 (by decide) ?_
  refine z_puti (c := 3) (k := 0) (g := 384) z_cb3 (Nat.le_of_ble_eq_true rfl) (Nat.le_of_ble_eq_true rfl) (Nat.le_of_ble_eq_true rfl) rfl rfl rfl zw_44 rfl ha (Or.inl rfl) dX3_init_6 ?_
  refine z_nm (fun M_1 g_1 => ?_)
  replace hP := hP M_1 g_1
  have q_1 := z_k1 g_1
  have ha := z_kk q_1 ha
  refine z_aload_n dX3_init_9 rfl 0 rfl ?_
  refine z_pc (pc' := 10) rfl ?_
  refine z_iconst (v := 2) dX3_init_10 (by decide) ?_
  refine z_puti (c := 3) (k := 1) (g := 385) z_cb3 (Nat.le_of_ble_eq_true rfl) (Nat.le_of_ble_eq_true rfl) (Nat.le_of_ble_eq_true rfl) rfl rfl rfl zw_47 rfl ha (Or.inl rfl) dX3_init_11 ?_
  refine z_nm (fun M_2 g_2 => ?_)
  replace hP := hP M_2 g_2
  have q_2 := z_k1 g_2
  have ha := z_kk q_2 ha
  refine z_aload_n dX3_init_14 rfl 0 rfl ?_
  refine z_bipush (v := 8) dX3_init_15 (by decide) ?_
  refine z_puti (c := 3) (k := 2) (g := 386) z_cb3 (Nat.le_of_ble_eq_true rfl) (Nat.le_of_ble_eq_true rfl) (Nat.le_of_ble_eq_true rfl) rfl rfl rfl zw_50 rfl ha (Or.inl rfl) dX3_init_17 ?_
  refine z_nm (fun M_3 g_3 => ?_)
  replace hP := hP M_3 g_3
  have q_3 := z_k1 g_3
  have ha := z_kk q_3 ha
  refine z_aload_n dX3_init_20 rfl 0 rfl ?_
  refine z_pc (pc' := 21) rfl ?_
  refine z_bipush (v := 6) dX3_init_21 (by decide) ?_
  refine z_puti (c := 3) (k := 3) (g := 387) z_cb3 (Nat.le_of_ble_eq_true rfl) (Nat.le_of_ble_eq_true rfl) (Nat.le_of_ble_eq_true rfl) rfl rfl rfl zw_52 rfl ha (Or.inl rfl) dX3_init_23 ?_
  refine z_nm (fun M_4 g_4 => ?_)
  replace hP := hP M_4 g_4
  have q_4 := z_k1 g_4
  have ha := z_kk q_4 ha
  refine z_aload_n dX3_init_26 rfl 0 rfl ?_
  refine z_iconst (v := 1) dX3_init_27 (by decide) ?_
  refine z_putb (c := 3) (k := 4) (g := 388) z_cb3 (Nat.le_of_ble_eq_true rfl) (Nat.le_of_ble_eq_true rfl) (Nat.le_of_ble_eq_true rfl) rfl rfl rfl zw_55 rfl ha (Or.inr rfl) (Or.inl rfl) dX3_init_28 ?_
  refine z_nm (fun M_5 g_5 => ?_)
  replace hP := hP M_5 g_5
  have q_5 := z_k1 g_5
  have ha := z_kk q_5 ha
  refine z_aload_n dX3_init_31 rfl 0 rfl ?_
  refine z_pc (pc' := 32) rfl ?_
  refine z_bipush (v := 30) dX3_init_32 (by decide) ?_
  obtain ⟨r6, hP⟩ := hP
  refine z_wts (fun hT6 _ => ?_)
  refine z_newq (t := 22) (tt := 2) (N := 30) (Nat.le_of_ble_eq_true rfl) (Nat.le_of_ble_eq_true rfl) rfl (fun _ => rfl) zw_42 rfl (Nat.le_of_ble_eq_true rfl) r6 dX3_init_34 (fun x6 k6 => ?_)
  refine z_nm (fun M_7 g_7 => ?_)
  replace hP := hP M_7 g_7
  have x6 := z_xe g_7 x6
  have k6 := z_xk g_7 k6
  have ha := x6.k (k := 3) hT6 ha
  refine z_putr (c := 3) (k := 9) (g := 393) (t := 22) z_cb3 (Nat.le_of_ble_eq_true rfl) (Nat.le_of_ble_eq_true rfl) rfl rfl rfl zw_65 rfl ha (z_trn rfl k6) (Or.inr ⟨rfl, rfl, rfl⟩) dX3_init_37 ?_
  refine z_nm (fun M_8 g_8 => ?_)
  replace hP := hP M_8 g_8
  have q_8 := z_k2 g_8
  have ha := z_kk q_8 ha
  exact z_retv rfl dX3_init_40 hP
set_option maxRecDepth 100000 in
def P_X3_letsToClient (a : Nat) (M : z_Mem) (Post : Int32 → z_Mem → Prop) : Prop := (((z_fi M 388 a) = 0 → Post 0 M) ∧ (¬ (z_fi M 388 a) = 0 → (((z_fi M 390 a) ≤ 0 → Post 1 M) ∧ (¬ (z_fi M 390 a) ≤ 0 → ∀ M_6 : z_Mem, M_6 = z_sfi M 390 a ((z_fi M 390 a) - 1) → (Post 0 M_6)))))
set_option maxRecDepth 100000 in
set_option maxHeartbeats 4000000 in
theorem s_X3_letsToClient {G : z_G} {M : z_Mem} {a : Nat} {Post : Int32 → z_Mem → Prop} (ha : z_ki M a = 4) (hP : P_X3_letsToClient a M Post) : z_Mt G Y_X3_letsToClient M [z_O (some a)] (z_PB Post) := by
  refine z_ofV (by decide) (Nat.le_of_ble_eq_true rfl) ?_
  unfold P_X3_letsToClient at hP
  refine z_sub (lv' := [(0, z_O (some a))]) [0] rfl ?_
  refine z_aload_n dX3_letsToClient_0 rfl 0 rfl ?_
  refine z_getb (c := 3) (k := 4) (g := 388) z_cb3 (Nat.le_of_ble_eq_true rfl) (Nat.le_of_ble_eq_true rfl) rfl rfl zw_55 rfl ha dX3_letsToClient_1 (fun b1 => ?_)
  refine z_if_ne (tgt := 9) dX3_letsToClient_4 (by decide) (fun h2 => ?_) (fun h2 => ?_)
  · replace hP := hP.2 h2
    refine z_aload_n dX3_letsToClient_9 rfl 0 rfl ?_
    refine z_geti (c := 3) (k := 6) (g := 390) z_cb3 (Nat.le_of_ble_eq_true rfl) (Nat.le_of_ble_eq_true rfl) rfl (Nat.le_of_ble_eq_true rfl) zw_59 rfl ha dX3_letsToClient_10 ?_
    refine z_if_le (tgt := 28) dX3_letsToClient_13 (by decide) (fun h4 => ?_) (fun h4 => ?_)
    · replace hP := hP.1 h4
      refine z_iconst (v := 1) dX3_letsToClient_28 (by decide) ?_
      exact z_retb rfl (Or.inr rfl) dX3_letsToClient_29 hP
    · replace hP := hP.2 h4
      refine z_aload_n dX3_letsToClient_16 rfl 0 rfl ?_
      refine z_dup dX3_letsToClient_17 rfl ?_
      refine z_pc (pc' := 18) rfl ?_
      refine z_geti (c := 3) (k := 6) (g := 390) z_cb3 (Nat.le_of_ble_eq_true rfl) (Nat.le_of_ble_eq_true rfl) rfl (Nat.le_of_ble_eq_true rfl) zw_59 rfl ha dX3_letsToClient_18 ?_
      refine z_iconst (v := 1) dX3_letsToClient_21 (by decide) ?_
      refine z_isub dX3_letsToClient_22 ?_
      refine z_puti (c := 3) (k := 6) (g := 390) z_cb3 (Nat.le_of_ble_eq_true rfl) (Nat.le_of_ble_eq_true rfl) (Nat.le_of_ble_eq_true rfl) rfl rfl rfl zw_59 rfl ha (Or.inl rfl) dX3_letsToClient_23 ?_
      refine z_nm (fun M_6 g_6 => ?_)
      replace hP := hP M_6 g_6
      have q_6 := z_k1 g_6
      have ha := z_kk q_6 ha
      refine z_iconst (v := 0) dX3_letsToClient_26 (by decide) ?_
      exact z_retb rfl (Or.inl rfl) dX3_letsToClient_27 hP
  · replace hP := hP.1 h2
    refine z_iconst (v := 0) dX3_letsToClient_7 (by decide) ?_
    exact z_retb rfl (Or.inl rfl) dX3_letsToClient_8 hP
set_option maxRecDepth 100000 in
def P_X3_removeFirst (a : Nat) (M : z_Mem) (Post : Option Nat → z_Mem → Prop) : Prop := z_nn (z_fr M 393 a) fun a3 => (vp_in (z_fi M 394 a) (z_ln M a3) ∧ (z_nn (z_fr M 393 a) fun a7 => (vp_in (z_fi M 394 a) (z_ln M a7) ∧ (∀ M_9 : z_Mem, M_9 = z_sar M a7 (((z_fi M 394 a) : Int32).toNatClampNeg) none → (∀ M_11 : z_Mem, M_11 = z_sfi M_9 394 a (((z_fi M_9 394 a) + 1) - ((z_fi M_9 394 a) + 1) / 30 * 30) → (∀ M_13 : z_Mem, M_13 = z_sfi M_11 395 a ((z_fi M_11 395 a) - 1) → (Post (z_ar M a3 (((z_fi M 394 a) : Int32).toNatClampNeg)) M_13)))))))
set_option maxRecDepth 100000 in
set_option maxHeartbeats 4000000 in
theorem s_X3_removeFirst {G : z_G} {M : z_Mem} {a : Nat} {Post : Option Nat → z_Mem → Prop} (ha : z_ki M a = 4) (hP : P_X3_removeFirst a M Post) : z_Mt G Y_X3_removeFirst M [z_O (some a)] (z_PO 5 Post) := by
  refine z_ofV (by decide) (Nat.le_of_ble_eq_true rfl) ?_
  unfold P_X3_removeFirst at hP
  refine z_sub (lv' := [(0, z_O (some a))]) [0] rfl ?_
  refine z_aload_n dX3_removeFirst_0 rfl 0 rfl ?_
  refine z_getr (c := 3) (k := 9) (g := 393) (t := 22) z_cb3 (Nat.le_of_ble_eq_true rfl) (Nat.le_of_ble_eq_true rfl) rfl rfl zw_65 rfl ha dX3_removeFirst_1 (fun f1 => ?_)
  refine z_aload_n dX3_removeFirst_4 rfl 0 rfl ?_
  refine z_geti (c := 3) (k := 10) (g := 394) z_cb3 (Nat.le_of_ble_eq_true rfl) (Nat.le_of_ble_eq_true rfl) rfl (Nat.le_of_ble_eq_true rfl) zw_66 rfl ha dX3_removeFirst_5 ?_
  obtain ⟨a3, e3, hP⟩ := hP
  have k3 := f1 a3 e3
  obtain ⟨i4, hP⟩ := hP
  refine z_aald (t := 22) e3 k3 (Nat.le_of_ble_eq_true rfl) (Nat.le_of_ble_eq_true rfl) i4 dX3_removeFirst_8 (fun f4 => ?_)
  refine z_astore_n (lv' := [(1, z_O _), (0, z_O _)]) dX3_removeFirst_9 rfl (Nat.le_of_ble_eq_true rfl) rfl ?_
  refine z_pc (pc' := 10) rfl ?_
  refine z_aload_n dX3_removeFirst_10 rfl 1 rfl ?_
  refine z_getr (c := 3) (k := 9) (g := 393) (t := 22) z_cb3 (Nat.le_of_ble_eq_true rfl) (Nat.le_of_ble_eq_true rfl) rfl rfl zw_65 rfl ha dX3_removeFirst_11 (fun f5 => ?_)
  refine z_aload_n dX3_removeFirst_14 rfl 1 rfl ?_
  refine z_geti (c := 3) (k := 10) (g := 394) z_cb3 (Nat.le_of_ble_eq_true rfl) (Nat.le_of_ble_eq_true rfl) rfl (Nat.le_of_ble_eq_true rfl) zw_66 rfl ha dX3_removeFirst_15 ?_
  refine z_null dX3_removeFirst_18 ?_
  obtain ⟨a7, e7, hP⟩ := hP
  have k7 := f5 a7 e7
  obtain ⟨i8, hP⟩ := hP
  refine z_aast (t := 22) e7 k7 (Nat.le_of_ble_eq_true rfl) (Nat.le_of_ble_eq_true rfl) i8 z_tr0 dX3_removeFirst_19 ?_
  refine z_nm (fun M_9 g_9 => ?_)
  replace hP := hP M_9 g_9
  have q_9 := z_k4 g_9
  have ha := z_kk q_9 ha
  have f4 := z_trk q_9 f4
  refine z_pc (pc' := 20) rfl ?_
  refine z_aload_n dX3_removeFirst_20 rfl 1 rfl ?_
  refine z_aload_n dX3_removeFirst_21 rfl 1 rfl ?_
  refine z_geti (c := 3) (k := 10) (g := 394) z_cb3 (Nat.le_of_ble_eq_true rfl) (Nat.le_of_ble_eq_true rfl) rfl (Nat.le_of_ble_eq_true rfl) zw_66 rfl ha dX3_removeFirst_22 ?_
  refine z_iconst (v := 1) dX3_removeFirst_25 (by decide) ?_
  refine z_iadd dX3_removeFirst_26 ?_
  refine z_bipush (v := 30) dX3_removeFirst_27 (by decide) ?_
  refine z_pc (pc' := 29) rfl ?_
  refine z_irem dX3_removeFirst_29 (by decide) ?_
  refine z_puti (c := 3) (k := 10) (g := 394) z_cb3 (Nat.le_of_ble_eq_true rfl) (Nat.le_of_ble_eq_true rfl) (Nat.le_of_ble_eq_true rfl) rfl rfl rfl zw_66 rfl ha (Or.inl rfl) dX3_removeFirst_30 ?_
  refine z_nm (fun M_11 g_11 => ?_)
  replace hP := hP M_11 g_11
  have q_11 := z_k1 g_11
  have ha := z_kk q_11 ha
  have f4 := z_trk q_11 f4
  refine z_aload_n dX3_removeFirst_33 rfl 1 rfl ?_
  refine z_dup dX3_removeFirst_34 rfl ?_
  refine z_geti (c := 3) (k := 11) (g := 395) z_cb3 (Nat.le_of_ble_eq_true rfl) (Nat.le_of_ble_eq_true rfl) rfl (Nat.le_of_ble_eq_true rfl) zw_68 rfl ha dX3_removeFirst_35 ?_
  refine z_iconst (v := 1) dX3_removeFirst_38 (by decide) ?_
  refine z_pc (pc' := 39) rfl ?_
  refine z_isub dX3_removeFirst_39 ?_
  refine z_puti (c := 3) (k := 11) (g := 395) z_cb3 (Nat.le_of_ble_eq_true rfl) (Nat.le_of_ble_eq_true rfl) (Nat.le_of_ble_eq_true rfl) rfl rfl rfl zw_68 rfl ha (Or.inl rfl) dX3_removeFirst_40 ?_
  refine z_nm (fun M_13 g_13 => ?_)
  replace hP := hP M_13 g_13
  have q_13 := z_k1 g_13
  have ha := z_kk q_13 ha
  have f4 := z_trk q_13 f4
  refine z_aload_n dX3_removeFirst_43 rfl 0 rfl ?_
  exact z_reto (k := 5) rfl f4 dX3_removeFirst_44 hP
set_option maxRecDepth 100000 in
def P_X3_takeLateness (a : Nat) (M : z_Mem) (Post : Int32 → z_Mem → Prop) : Prop := ((0 < (z_fi M 391 a) → ∀ M_4 : z_Mem, M_4 = z_sfi M 391 a ((z_fi M 391 a) - 1) → (Post (z_fi M_4 392 a) M_4)) ∧ (¬ 0 < (z_fi M 391 a) → Post 0 M))
set_option maxRecDepth 100000 in
set_option maxHeartbeats 4000000 in
theorem s_X3_takeLateness {G : z_G} {M : z_Mem} {a : Nat} {Post : Int32 → z_Mem → Prop} (ha : z_ki M a = 4) (hP : P_X3_takeLateness a M Post) : z_Mt G Y_X3_takeLateness M [z_O (some a)] (z_PI Post) := by
  refine z_ofV (by decide) (Nat.le_of_ble_eq_true rfl) ?_
  unfold P_X3_takeLateness at hP
  refine z_sub (lv' := [(0, z_O (some a))]) [0] rfl ?_
  refine z_aload_n dX3_takeLateness_0 rfl 0 rfl ?_
  refine z_geti (c := 3) (k := 7) (g := 391) z_cb3 (Nat.le_of_ble_eq_true rfl) (Nat.le_of_ble_eq_true rfl) rfl (Nat.le_of_ble_eq_true rfl) zw_62 rfl ha dX3_takeLateness_1 ?_
  refine z_if_gt (tgt := 9) dX3_takeLateness_4 (by decide) (fun h2 => ?_) (fun h2 => ?_)
  · replace hP := hP.1 h2
    refine z_aload_n dX3_takeLateness_9 rfl 0 rfl ?_
    refine z_dup dX3_takeLateness_10 rfl ?_
    refine z_geti (c := 3) (k := 7) (g := 391) z_cb3 (Nat.le_of_ble_eq_true rfl) (Nat.le_of_ble_eq_true rfl) rfl (Nat.le_of_ble_eq_true rfl) zw_62 rfl ha dX3_takeLateness_11 ?_
    refine z_iconst (v := 1) dX3_takeLateness_14 (by decide) ?_
    refine z_pc (pc' := 15) rfl ?_
    refine z_isub dX3_takeLateness_15 ?_
    refine z_puti (c := 3) (k := 7) (g := 391) z_cb3 (Nat.le_of_ble_eq_true rfl) (Nat.le_of_ble_eq_true rfl) (Nat.le_of_ble_eq_true rfl) rfl rfl rfl zw_62 rfl ha (Or.inl rfl) dX3_takeLateness_16 ?_
    refine z_nm (fun M_4 g_4 => ?_)
    replace hP := hP M_4 g_4
    have q_4 := z_k1 g_4
    have ha := z_kk q_4 ha
    refine z_aload_n dX3_takeLateness_19 rfl 0 rfl ?_
    refine z_geti (c := 3) (k := 8) (g := 392) z_cb3 (Nat.le_of_ble_eq_true rfl) (Nat.le_of_ble_eq_true rfl) rfl (Nat.le_of_ble_eq_true rfl) zw_64 rfl ha dX3_takeLateness_20 ?_
    exact z_reti rfl dX3_takeLateness_23 hP
  · replace hP := hP.2 h2
    refine z_iconst (v := 0) dX3_takeLateness_7 (by decide) ?_
    exact z_reti rfl dX3_takeLateness_8 hP
set_option maxRecDepth 100000 in
def P_X10_init (a : Nat) (p1 : Int32) (M : z_Mem) (Post : z_Mem → Prop) : Prop := ∃ N_1 : Nat, ((if 0 < p1 then p1 else 0) : Int32) = nI N_1 ∧ N_1 ≤ 60000 ∧ z_room M N_1 ∧ (∀ M_2 : z_Mem, M_2 = z_nwa M 22 N_1 → (∀ M_3 : z_Mem, M_3 = z_sfr M_2 1280 a (some (z_sz M)) → (Post M_3)))
set_option maxRecDepth 100000 in
set_option maxHeartbeats 4000000 in
theorem s_X10_init {G : z_G} {M : z_Mem} {a : Nat} {p1 : Int32} {Post : z_Mem → Prop} (ha : z_ki M a = 11) (hP : P_X10_init a p1 M Post) : z_Mt G Y_X10_init M [z_O (some a), z_I p1] (z_PV Post) := by
  refine z_ofV (by decide) (Nat.le_of_ble_eq_true rfl) ?_
  unfold P_X10_init at hP
  refine z_sub (lv' := [(0, z_O (some a)), (1, z_I p1)]) [0, 1] rfl ?_
  refine z_aload_n dX10_init_0 rfl 0 rfl ?_
  refine z_objInit rfl zw_100 zw_28 zw_29 dX10_init_1 (Nat.le_of_ble_eq_true rfl) (Nat.le_of_ble_eq_true rfl) ?_
  refine z_aload_n dX10_init_4 rfl 0 rfl ?_
  refine z_iconst (v := 0) dX10_init_5 (by decide) ?_
  refine z_iload_n dX10_init_6 rfl 1 rfl ?_
  refine z_mmax zw_101 zw_102 zw_5 zw_103 dX10_init_7 (Nat.le_of_ble_eq_true rfl) (Nat.le_of_ble_eq_true rfl) ?_
  refine z_pc (pc' := 10) rfl ?_
  obtain ⟨N_1, y1, u1, r1, hP⟩ := hP
  refine z_wts (fun hT1 _ => ?_)
  refine z_newq (t := 22) (tt := 2) (N := N_1) (Nat.le_of_ble_eq_true rfl) (Nat.le_of_ble_eq_true rfl) rfl (fun _ => rfl) zw_104 y1 u1 r1 dX10_init_10 (fun x1 k1 => ?_)
  refine z_nm (fun M_2 g_2 => ?_)
  replace hP := hP M_2 g_2
  have x1 := z_xe g_2 x1
  have k1 := z_xk g_2 k1
  have ha := x1.k (k := 10) hT1 ha
  refine z_putr (c := 10) (k := 0) (g := 1280) (t := 22) z_cb10 (Nat.le_of_ble_eq_true rfl) (Nat.le_of_ble_eq_true rfl) rfl rfl rfl zw_105 rfl ha (z_trn rfl k1) (Or.inr ⟨rfl, rfl, rfl⟩) dX10_init_13 ?_
  refine z_nm (fun M_3 g_3 => ?_)
  replace hP := hP M_3 g_3
  have q_3 := z_k2 g_3
  have ha := z_kk q_3 ha
  exact z_retv rfl dX10_init_16 hP
set_option maxRecDepth 100000 in
def P_X5_init (a : Nat) (M : z_Mem) (Post : z_Mem → Prop) : Prop := z_room M 12 ∧ (∀ M_2 : z_Mem, M_2 = z_new M 4 12 → (P_X3_init (z_sz M) M_2 fun M_3 => (∀ M_4 : z_Mem, M_4 = z_sfr M_3 640 a (some (z_sz M)) → (z_room M_4 12 ∧ (∀ M_6 : z_Mem, M_6 = z_new M_4 4 12 → (P_X3_init (z_sz M_4) M_6 fun M_7 => (∀ M_8 : z_Mem, M_8 = z_sfr M_7 641 a (some (z_sz M_4)) → (z_room M_8 2 ∧ (∀ M_10 : z_Mem, M_10 = z_new M_8 11 2 → (P_X10_init (z_sz M_8) 1024 M_10 fun M_11 => (∀ M_12 : z_Mem, M_12 = z_sfr M_11 642 a (some (z_sz M_8)) → (z_room M_12 2 ∧ (∀ M_14 : z_Mem, M_14 = z_new M_12 11 2 → (P_X10_init (z_sz M_12) 2048 M_14 fun M_15 => (∀ M_16 : z_Mem, M_16 = z_sfr M_15 643 a (some (z_sz M_12)) → (z_room M_16 8 ∧ (∀ M_18 : z_Mem, M_18 = z_new M_16 5 8 → (P_X4_init (z_sz M_16) 9 M_18 fun M_19 => (∀ M_20 : z_Mem, M_20 = z_sfr M_19 644 a (some (z_sz M_16)) → (Post M_20))))))))))))))))))))
set_option maxRecDepth 100000 in
set_option maxHeartbeats 4000000 in
theorem s_X5_init {G : z_G} {M : z_Mem} {a : Nat} {Post : z_Mem → Prop} (ha : z_ki M a = 6) (hP : P_X5_init a M Post) : z_Mt G Y_X5_init M [z_O (some a)] (z_PV Post) := by
  refine z_ofV (by decide) (Nat.le_of_ble_eq_true rfl) ?_
  unfold P_X5_init at hP
  refine z_sub (lv' := [(0, z_O (some a))]) [0] rfl ?_
  refine z_aload_n dX5_init_0 rfl 0 rfl ?_
  refine z_objInit rfl zw_35 zw_28 zw_29 dX5_init_1 (Nat.le_of_ble_eq_true rfl) (Nat.le_of_ble_eq_true rfl) ?_
  refine z_aload_n dX5_init_4 rfl 0 rfl ?_
  obtain ⟨r1, hP⟩ := hP
  refine z_wts (fun hT1 _ => ?_)
  refine z_newo (c := 3) z_cb3 (Nat.le_of_ble_eq_true rfl) rfl z_df3 zw_36 zw_37 zw_3 r1 dX5_init_5 (fun x1 k1 => ?_)
  refine z_nm (fun M_2 g_2 => ?_)
  replace hP := hP M_2 g_2
  have x1 := z_xe g_2 x1
  have k1 := z_xk g_2 k1
  have ha := x1.k (k := 5) hT1 ha
  refine z_dup dX5_init_8 rfl ?_
  refine z_wts (fun hT3 _ => ?_)
  refine z_cINv (n := 0) (host := "Tidewater") (Y1 := Y_X3_init) (st := [z_O _, z_O _]) rfl (s_X3_init k1 hP) rfl rfl rfl ⟨z_dc_X3_init, ⟨(Nat.le_of_ble_eq_true rfl), (Nat.le_of_ble_eq_true rfl)⟩, (Nat.le_of_ble_eq_true rfl)⟩ rfl (List.mem_of_getElem? (i := 1) rfl) zw_39 zw_3 zw_40 dX5_init_9 (fun M_3 hP _ x3 => ?_)
  have ha := x3.k (k := 5) hT3 ha
  have k1 := x3.k (k := 3) hT3 k1
  refine z_pc (pc' := 12) rfl ?_
  refine z_putr (c := 5) (k := 0) (g := 640) (t := 4) z_cb5 (Nat.le_of_ble_eq_true rfl) (Nat.le_of_ble_eq_true rfl) rfl rfl rfl zw_157 rfl ha (z_trn rfl k1) (Or.inr ⟨rfl, rfl, rfl⟩) dX5_init_12 ?_
  refine z_nm (fun M_4 g_4 => ?_)
  replace hP := hP M_4 g_4
  have q_4 := z_k2 g_4
  have ha := z_kk q_4 ha
  refine z_aload_n dX5_init_15 rfl 0 rfl ?_
  obtain ⟨r5, hP⟩ := hP
  refine z_wts (fun hT5 _ => ?_)
  refine z_newo (c := 3) z_cb3 (Nat.le_of_ble_eq_true rfl) rfl z_df3 zw_36 zw_37 zw_3 r5 dX5_init_16 (fun x5 k5 => ?_)
  refine z_nm (fun M_6 g_6 => ?_)
  replace hP := hP M_6 g_6
  have x5 := z_xe g_6 x5
  have k5 := z_xk g_6 k5
  have ha := x5.k (k := 5) hT5 ha
  refine z_dup dX5_init_19 rfl ?_
  refine z_wts (fun hT7 _ => ?_)
  refine z_cINv (n := 0) (host := "Tidewater") (Y1 := Y_X3_init) (st := [z_O _, z_O _]) rfl (s_X3_init k5 hP) rfl rfl rfl ⟨z_dc_X3_init, ⟨(Nat.le_of_ble_eq_true rfl), (Nat.le_of_ble_eq_true rfl)⟩, (Nat.le_of_ble_eq_true rfl)⟩ rfl (List.mem_of_getElem? (i := 1) rfl) zw_39 zw_3 zw_40 dX5_init_20 (fun M_7 hP _ x7 => ?_)
  have ha := x7.k (k := 5) hT7 ha
  have k5 := x7.k (k := 3) hT7 k5
  refine z_putr (c := 5) (k := 1) (g := 641) (t := 4) z_cb5 (Nat.le_of_ble_eq_true rfl) (Nat.le_of_ble_eq_true rfl) rfl rfl rfl zw_158 rfl ha (z_trn rfl k5) (Or.inr ⟨rfl, rfl, rfl⟩) dX5_init_23 ?_
  refine z_nm (fun M_8 g_8 => ?_)
  replace hP := hP M_8 g_8
  have q_8 := z_k2 g_8
  have ha := z_kk q_8 ha
  refine z_pc (pc' := 26) rfl ?_
  refine z_aload_n dX5_init_26 rfl 0 rfl ?_
  obtain ⟨r9, hP⟩ := hP
  refine z_wts (fun hT9 _ => ?_)
  refine z_newo (c := 10) z_cb10 (Nat.le_of_ble_eq_true rfl) rfl z_df10 zw_95 zw_96 zw_4 r9 dX5_init_27 (fun x9 k9 => ?_)
  refine z_nm (fun M_10 g_10 => ?_)
  replace hP := hP M_10 g_10
  have x9 := z_xe g_10 x9
  have k9 := z_xk g_10 k9
  have ha := x9.k (k := 5) hT9 ha
  refine z_dup dX5_init_30 rfl ?_
  refine z_sipush (v := 1024) dX5_init_31 (by decide) ?_
  refine z_wts (fun hT11 _ => ?_)
  refine z_cIv (n := 1) (Y1 := Y_X10_init) (st := [z_O _, z_O _]) rfl (s_X10_init k9 hP) rfl rfl rfl ⟨z_dc_X10_init, ⟨(Nat.le_of_ble_eq_true rfl), (Nat.le_of_ble_eq_true rfl)⟩, (Nat.le_of_ble_eq_true rfl)⟩ rfl zw_97 zw_98 zw_4 zw_99 dX5_init_34 (fun M_11 hP _ x11 => ?_)
  have ha := x11.k (k := 5) hT11 ha
  have k9 := x11.k (k := 10) hT11 k9
  refine z_putr (c := 5) (k := 2) (g := 642) (t := 11) z_cb5 (Nat.le_of_ble_eq_true rfl) (Nat.le_of_ble_eq_true rfl) rfl rfl rfl zw_159 rfl ha (z_trn rfl k9) (Or.inr ⟨rfl, rfl, rfl⟩) dX5_init_37 ?_
  refine z_nm (fun M_12 g_12 => ?_)
  replace hP := hP M_12 g_12
  have q_12 := z_k2 g_12
  have ha := z_kk q_12 ha
  refine z_pc (pc' := 40) rfl ?_
  refine z_aload_n dX5_init_40 rfl 0 rfl ?_
  obtain ⟨r13, hP⟩ := hP
  refine z_wts (fun hT13 _ => ?_)
  refine z_newo (c := 10) z_cb10 (Nat.le_of_ble_eq_true rfl) rfl z_df10 zw_95 zw_96 zw_4 r13 dX5_init_41 (fun x13 k13 => ?_)
  refine z_nm (fun M_14 g_14 => ?_)
  replace hP := hP M_14 g_14
  have x13 := z_xe g_14 x13
  have k13 := z_xk g_14 k13
  have ha := x13.k (k := 5) hT13 ha
  refine z_dup dX5_init_44 rfl ?_
  refine z_sipush (v := 2048) dX5_init_45 (by decide) ?_
  refine z_wts (fun hT15 _ => ?_)
  refine z_cIv (n := 1) (Y1 := Y_X10_init) (st := [z_O _, z_O _]) rfl (s_X10_init k13 hP) rfl rfl rfl ⟨z_dc_X10_init, ⟨(Nat.le_of_ble_eq_true rfl), (Nat.le_of_ble_eq_true rfl)⟩, (Nat.le_of_ble_eq_true rfl)⟩ rfl zw_97 zw_98 zw_4 zw_99 dX5_init_48 (fun M_15 hP _ x15 => ?_)
  have ha := x15.k (k := 5) hT15 ha
  have k13 := x15.k (k := 10) hT15 k13
  refine z_putr (c := 5) (k := 3) (g := 643) (t := 11) z_cb5 (Nat.le_of_ble_eq_true rfl) (Nat.le_of_ble_eq_true rfl) rfl rfl rfl zw_161 rfl ha (z_trn rfl k13) (Or.inr ⟨rfl, rfl, rfl⟩) dX5_init_51 ?_
  refine z_nm (fun M_16 g_16 => ?_)
  replace hP := hP M_16 g_16
  have q_16 := z_k2 g_16
  have ha := z_kk q_16 ha
  refine z_pc (pc' := 54) rfl ?_
  refine z_aload_n dX5_init_54 rfl 0 rfl ?_
  obtain ⟨r17, hP⟩ := hP
  refine z_wts (fun hT17 _ => ?_)
  refine z_newo (c := 4) z_cb4 (Nat.le_of_ble_eq_true rfl) rfl z_df4 zw_114 zw_115 zw_6 r17 dX5_init_55 (fun x17 k17 => ?_)
  refine z_nm (fun M_18 g_18 => ?_)
  replace hP := hP M_18 g_18
  have x17 := z_xe g_18 x17
  have k17 := z_xk g_18 k17
  have ha := x17.k (k := 5) hT17 ha
  refine z_dup dX5_init_58 rfl ?_
  refine z_bipush (v := 9) dX5_init_59 (by decide) ?_
  refine z_wts (fun hT19 _ => ?_)
  refine z_cIv (n := 1) (Y1 := Y_X4_init) (st := [z_O _, z_O _]) rfl (s_X4_init k17 hP) rfl rfl rfl ⟨z_dc_X4_init, ⟨(Nat.le_of_ble_eq_true rfl), (Nat.le_of_ble_eq_true rfl)⟩, (Nat.le_of_ble_eq_true rfl)⟩ rfl zw_116 zw_117 zw_6 zw_118 dX5_init_61 (fun M_19 hP _ x19 => ?_)
  have ha := x19.k (k := 5) hT19 ha
  have k17 := x19.k (k := 4) hT19 k17
  refine z_putr (c := 5) (k := 4) (g := 644) (t := 5) z_cb5 (Nat.le_of_ble_eq_true rfl) (Nat.le_of_ble_eq_true rfl) rfl rfl rfl zw_163 rfl ha (z_trn rfl k17) (Or.inr ⟨rfl, rfl, rfl⟩) dX5_init_64 ?_
  refine z_nm (fun M_20 g_20 => ?_)
  replace hP := hP M_20 g_20
  have q_20 := z_k2 g_20
  have ha := z_kk q_20 ha
  refine z_pc (pc' := 67) rfl ?_
  exact z_retv rfl dX5_init_67 hP
set_option maxRecDepth 100000 in
def P_X10_append (a : Nat) (p1 : Option Nat) (p2 : Int32) (M : z_Mem) (Post : z_Mem → Prop) : Prop := z_nn (z_fr M 1280 a) fun a3 => ((((nI (z_ln M a3)) ≤ (z_fi M 1281 a) → Post M) ∧ (¬ (nI (z_ln M a3)) ≤ (z_fi M 1281 a) → z_nn p1 fun a5 => (∀ M_6 : z_Mem, M_6 = z_sfi M 514 a5 p2 → (z_nn (z_fr M_6 1280 a) fun a9 => (vp_in (z_fi M_6 1281 a) (z_ln M_6 a9) ∧ (∀ M_11 : z_Mem, M_11 = z_sar M_6 a9 (((z_fi M_6 1281 a) : Int32).toNatClampNeg) p1 → (∀ M_13 : z_Mem, M_13 = z_sfi M_11 1281 a ((z_fi M_11 1281 a) + 1) → (Post M_13)))))))))
set_option maxRecDepth 100000 in
set_option maxHeartbeats 4000000 in
theorem s_X10_append {G : z_G} {M : z_Mem} {a : Nat} {p1 : Option Nat} {p2 : Int32} {Post : z_Mem → Prop} (ha : z_ki M a = 11) (f_p1 : z_tr M p1 5) (hP : P_X10_append a p1 p2 M Post) : z_Mt G Y_X10_append M [z_O (some a), z_O p1, z_I p2] (z_PV Post) := by
  refine z_ofV (by decide) (Nat.le_of_ble_eq_true rfl) ?_
  unfold P_X10_append at hP
  refine z_sub (lv' := [(0, z_O (some a)), (1, z_O p1), (2, z_I p2)]) [0, 1, 2] rfl ?_
  refine z_aload_n dX10_append_0 rfl 0 rfl ?_
  refine z_geti (c := 10) (k := 1) (g := 1281) z_cb10 (Nat.le_of_ble_eq_true rfl) (Nat.le_of_ble_eq_true rfl) rfl (Nat.le_of_ble_eq_true rfl) zw_106 rfl ha dX10_append_1 ?_
  refine z_aload_n dX10_append_4 rfl 0 rfl ?_
  refine z_getr (c := 10) (k := 0) (g := 1280) (t := 22) z_cb10 (Nat.le_of_ble_eq_true rfl) (Nat.le_of_ble_eq_true rfl) rfl rfl zw_105 rfl ha dX10_append_5 (fun f2 => ?_)
  obtain ⟨a3, e3, hP⟩ := hP
  have k3 := f2 a3 e3
  refine z_alen (t := 22) e3 k3 (Nat.le_of_ble_eq_true rfl) (Nat.le_of_ble_eq_true rfl) dX10_append_8 ?_
  refine z_icmp_ge (tgt := 37) dX10_append_9 (by decide) (fun h4 => ?_) (fun h4 => ?_)
  · replace hP := hP.1 h4
    exact z_retv rfl dX10_append_37 hP
  · replace hP := hP.2 h4
    refine z_aload_n dX10_append_12 rfl 1 rfl ?_
    refine z_pc (pc' := 13) rfl ?_
    refine z_iload_n dX10_append_13 rfl 2 rfl ?_
    obtain ⟨a5, e5, hP⟩ := hP
    have k5 := f_p1 a5 e5
    refine z_puti (c := 4) (k := 2) (g := 514) z_cb4 (Nat.le_of_ble_eq_true rfl) (Nat.le_of_ble_eq_true rfl) (Nat.le_of_ble_eq_true rfl) rfl rfl rfl zw_127 e5 k5 (Or.inl rfl) dX10_append_14 ?_
    refine z_nm (fun M_6 g_6 => ?_)
    replace hP := hP M_6 g_6
    have q_6 := z_k1 g_6
    have ha := z_kk q_6 ha
    have k5 := z_kk q_6 k5
    refine z_aload_n dX10_append_17 rfl 0 rfl ?_
    refine z_getr (c := 10) (k := 0) (g := 1280) (t := 22) z_cb10 (Nat.le_of_ble_eq_true rfl) (Nat.le_of_ble_eq_true rfl) rfl rfl zw_105 rfl ha dX10_append_18 (fun f7 => ?_)
    refine z_aload_n dX10_append_21 rfl 0 rfl ?_
    refine z_geti (c := 10) (k := 1) (g := 1281) z_cb10 (Nat.le_of_ble_eq_true rfl) (Nat.le_of_ble_eq_true rfl) rfl (Nat.le_of_ble_eq_true rfl) zw_106 rfl ha dX10_append_22 ?_
    refine z_pc (pc' := 25) rfl ?_
    refine z_aload_n dX10_append_25 rfl 1 rfl ?_
    obtain ⟨a9, e9, hP⟩ := hP
    have k9 := f7 a9 e9
    obtain ⟨i10, hP⟩ := hP
    refine z_aast (t := 22) e9 k9 (Nat.le_of_ble_eq_true rfl) (Nat.le_of_ble_eq_true rfl) i10 (z_trn e5 k5) dX10_append_26 ?_
    refine z_nm (fun M_11 g_11 => ?_)
    replace hP := hP M_11 g_11
    have q_11 := z_k4 g_11
    have ha := z_kk q_11 ha
    have k5 := z_kk q_11 k5
    refine z_aload_n dX10_append_27 rfl 0 rfl ?_
    refine z_dup dX10_append_28 rfl ?_
    refine z_geti (c := 10) (k := 1) (g := 1281) z_cb10 (Nat.le_of_ble_eq_true rfl) (Nat.le_of_ble_eq_true rfl) rfl (Nat.le_of_ble_eq_true rfl) zw_106 rfl ha dX10_append_29 ?_
    refine z_iconst (v := 1) dX10_append_32 (by decide) ?_
    refine z_pc (pc' := 33) rfl ?_
    refine z_iadd dX10_append_33 ?_
    refine z_puti (c := 10) (k := 1) (g := 1281) z_cb10 (Nat.le_of_ble_eq_true rfl) (Nat.le_of_ble_eq_true rfl) (Nat.le_of_ble_eq_true rfl) rfl rfl rfl zw_106 rfl ha (Or.inl rfl) dX10_append_34 ?_
    refine z_nm (fun M_13 g_13 => ?_)
    replace hP := hP M_13 g_13
    have q_13 := z_k1 g_13
    have ha := z_kk q_13 ha
    have k5 := z_kk q_13 k5
    exact z_retv rfl dX10_append_37 hP
set_option maxRecDepth 100000 in
def P_X5_putToClient (a : Nat) (p1 : Int32) (p2 : Option Nat) (M : z_Mem) (Post : z_Mem → Prop) : Prop := P_X5_laneOf a p1 M fun x_1 M_1 => (z_nn p2 fun a2 => (∀ M_3 : z_Mem, M_3 = z_sfi M_1 513 a2 p1 → (z_nn x_1 fun a5 => (P_X3_letsToClient a5 M_3 fun x_4 M_4 => (((x_4 = 0 → Post M_4) ∧ (¬ x_4 = 0 → z_nn (z_fr M_4 643 a) fun a11 => (P_X10_append a11 p2 ((z_fi M_4 645 a) + (z_fi M_4 384 a5)) M_4 fun M_10 => (Post M_10)))))))))
set_option maxRecDepth 100000 in
set_option maxHeartbeats 4000000 in
theorem s_X5_putToClient {G : z_G} {M : z_Mem} {a : Nat} {p1 : Int32} {p2 : Option Nat} {Post : z_Mem → Prop} (ha : z_ki M a = 6) (f_p2 : z_tr M p2 5) (hP : P_X5_putToClient a p1 p2 M Post) : z_Mt G Y_X5_putToClient M [z_O (some a), z_I p1, z_O p2] (z_PV Post) := by
  refine z_ofV (by decide) (Nat.le_of_ble_eq_true rfl) ?_
  unfold P_X5_putToClient at hP
  refine z_sub (lv' := [(0, z_O (some a)), (1, z_I p1), (2, z_O p2)]) [0, 1, 2] rfl ?_
  refine z_aload_n dX5_putToClient_0 rfl 0 rfl ?_
  refine z_iload_n dX5_putToClient_1 rfl 1 rfl ?_
  refine z_wts (fun hT1 _ => ?_)
  refine z_cVo (c := 5) (n := 1) (Y1 := Y_X5_laneOf) (st := []) rfl ha z_cb5 (Nat.le_of_ble_eq_true rfl) rfl (s_X5_laneOf ha hP) rfl ⟨z_dc_X5_laneOf, ⟨(Nat.le_of_ble_eq_true rfl), (Nat.le_of_ble_eq_true rfl)⟩, (Nat.le_of_ble_eq_true rfl)⟩ rfl zw_667 zw_632 zw_633 zw_2 zw_634 dX5_putToClient_2 (fun x_1 M_1 f1 hP _ x1 => ?_)
  have ha := x1.k (k := 5) hT1 ha
  have f_p2 := x1.t (k := 4) hT1 f_p2
  refine z_astore_n (lv' := [(3, z_O _), (0, z_O _), (1, z_I _), (2, z_O _)]) dX5_putToClient_5 rfl (Nat.le_of_ble_eq_true rfl) rfl ?_
  refine z_aload_n dX5_putToClient_6 rfl 3 rfl ?_
  refine z_iload_n dX5_putToClient_7 rfl 2 rfl ?_
  refine z_pc (pc' := 8) rfl ?_
  obtain ⟨a2, e2, hP⟩ := hP
  have k2 := f_p2 a2 e2
  refine z_puti (c := 4) (k := 1) (g := 513) z_cb4 (Nat.le_of_ble_eq_true rfl) (Nat.le_of_ble_eq_true rfl) (Nat.le_of_ble_eq_true rfl) rfl rfl rfl zw_124 e2 k2 (Or.inl rfl) dX5_putToClient_8 ?_
  refine z_nm (fun M_3 g_3 => ?_)
  replace hP := hP M_3 g_3
  have q_3 := z_k1 g_3
  have ha := z_kk q_3 ha
  have f1 := z_trk q_3 f1
  have k2 := z_kk q_3 k2
  refine z_aload_n dX5_putToClient_11 rfl 0 rfl ?_
  obtain ⟨a5, e5, hP⟩ := hP
  have k5 := f1 a5 e5
  refine z_wts (fun hT4 _ => ?_)
  refine z_cVb (c := 3) (n := 0) (Y1 := Y_X3_letsToClient) (st := []) e5 k5 z_cb3 (Nat.le_of_ble_eq_true rfl) rfl (s_X3_letsToClient k5 hP) rfl ⟨z_dc_X3_letsToClient, ⟨(Nat.le_of_ble_eq_true rfl), (Nat.le_of_ble_eq_true rfl)⟩, (Nat.le_of_ble_eq_true rfl)⟩ rfl zw_749 zw_750 zw_751 zw_3 zw_752 dX5_putToClient_12 (fun x_4 M_4 b4 hP _ x4 => ?_)
  have ha := x4.k (k := 5) hT4 ha
  have k5 := x4.k (k := 3) hT4 k5
  have k2 := x4.k (k := 4) hT4 k2
  refine z_if_eq (tgt := 35) dX5_putToClient_15 (by decide) (fun h6 => ?_) (fun h6 => ?_)
  · replace hP := hP.1 h6
    exact z_retv rfl dX5_putToClient_35 hP
  · replace hP := hP.2 h6
    refine z_aload_n dX5_putToClient_18 rfl 1 rfl ?_
    refine z_getr (c := 5) (k := 3) (g := 643) (t := 11) z_cb5 (Nat.le_of_ble_eq_true rfl) (Nat.le_of_ble_eq_true rfl) rfl rfl zw_161 rfl ha dX5_putToClient_19 (fun f7 => ?_)
    refine z_aload_n dX5_putToClient_22 rfl 3 rfl ?_
    refine z_pc (pc' := 23) rfl ?_
    refine z_aload_n dX5_putToClient_23 rfl 1 rfl ?_
    refine z_geti (c := 5) (k := 5) (g := 645) z_cb5 (Nat.le_of_ble_eq_true rfl) (Nat.le_of_ble_eq_true rfl) rfl (Nat.le_of_ble_eq_true rfl) zw_164 rfl ha dX5_putToClient_24 ?_
    refine z_aload_n dX5_putToClient_27 rfl 0 rfl ?_
    refine z_geti (c := 3) (k := 0) (g := 384) z_cb3 (Nat.le_of_ble_eq_true rfl) (Nat.le_of_ble_eq_true rfl) rfl (Nat.le_of_ble_eq_true rfl) zw_46 e5 k5 dX5_putToClient_28 ?_
    refine z_iadd dX5_putToClient_31 ?_
    obtain ⟨a11, e11, hP⟩ := hP
    have k11 := f7 a11 e11
    refine z_wts (fun hT10 _ => ?_)
    refine z_cVv (c := 10) (n := 2) (Y1 := Y_X10_append) (st := []) e11 k11 z_cb10 (Nat.le_of_ble_eq_true rfl) rfl (s_X10_append k11 (z_trn e2 k2) hP) rfl ⟨z_dc_X10_append, ⟨(Nat.le_of_ble_eq_true rfl), (Nat.le_of_ble_eq_true rfl)⟩, (Nat.le_of_ble_eq_true rfl)⟩ rfl zw_753 zw_754 zw_755 zw_4 zw_756 dX5_putToClient_32 (fun M_10 hP _ x10 => ?_)
    have ha := x10.k (k := 5) hT10 ha
    have k5 := x10.k (k := 3) hT10 k5
    have k2 := x10.k (k := 4) hT10 k2
    refine z_pc (pc' := 35) rfl ?_
    exact z_retv rfl dX5_putToClient_35 hP
set_option maxRecDepth 100000 in
def P_X5_putForeign_9 (a : Nat) (Post : Int32 → z_Mem → Prop)  : Nat → Int32 → Option Nat → Int32 → z_Mem → Prop
  | 0, _, _, _, _ => False
  | n + 1, x2, x3, x4, M => ((x2 ≤ x4 → Post x4 M) ∧ (¬ x2 ≤ x4 → z_nn x3 fun a3 => (P_X3_hasRoom a3 M fun x_2 M_2 => (((x_2 = 0 → Post x4 M_2) ∧ (¬ x_2 = 0 → P_X3_append a3 (z_fr M_2 644 a) M_2 fun M_6 => (∀ x_7 : Int32, x_7 = x4 + 1 → (P_X5_putForeign_9 a Post n x2 x3 x_7 M_6))))))))
set_option maxRecDepth 100000 in
def P_X5_putForeign (a : Nat) (p1 : Int32) (p2 : Int32) (M : z_Mem) (Post : Int32 → z_Mem → Prop) : Prop := P_X5_laneOf a p1 M fun x_8 M_8 => ((∃ n9 : Nat, P_X5_putForeign_9 a Post n9 p2 x_8 0 M_8))
set_option maxRecDepth 100000 in
set_option maxHeartbeats 4000000 in
theorem v_X5_putForeign_9 {G : z_G} {M0 : z_Mem} {a : Nat} {Post : Int32 → z_Mem → Prop}   : ∀ (n : Nat) {x2 : Int32} {x3 : Option Nat} {x4 : Int32} {M : z_Mem}, (z_ki M a = 6) → (z_tr M x3 4) → P_X5_putForeign_9 a Post n x2 x3 x4 M → z_V G Y_X5_putForeign z_X0 M0 (z_QM G M0 (z_PI Post)) M 9 [(0, z_O (some a)), (2, z_I x2), (3, z_O x3), (4, z_I x4)] [] := by
  intro n
  induction n with
  | zero => intro x2 x3 x4 M ha f_x3 hP; exact False.elim hP
  | succ n ih =>
    intro x2 x3 x4 M ha f_x3 hP
    unfold P_X5_putForeign_9 at hP
    refine z_iload dX5_putForeign_9 3 rfl ?_
    refine z_iload_n dX5_putForeign_11 rfl 1 rfl ?_
    refine z_icmp_ge (tgt := 36) dX5_putForeign_12 (by decide) (fun h1 => ?_) (fun h1 => ?_)
    · replace hP := hP.1 h1
      refine z_iload dX5_putForeign_36 3 rfl ?_
      exact z_reti rfl dX5_putForeign_38 hP
    · replace hP := hP.2 h1
      refine z_aload_n dX5_putForeign_15 rfl 2 rfl ?_
      obtain ⟨a3, e3, hP⟩ := hP
      have k3 := f_x3 a3 e3
      refine z_wts (fun hT2 _ => ?_)
      refine z_cVb (c := 3) (n := 0) (Y1 := Y_X3_hasRoom) (st := []) e3 k3 z_cb3 (Nat.le_of_ble_eq_true rfl) rfl (s_X3_hasRoom k3 hP) rfl ⟨z_dc_X3_hasRoom, ⟨(Nat.le_of_ble_eq_true rfl), (Nat.le_of_ble_eq_true rfl)⟩, (Nat.le_of_ble_eq_true rfl)⟩ rfl zw_668 zw_669 zw_670 zw_3 zw_671 dX5_putForeign_16 (fun x_2 M_2 b2 hP _ x2 => ?_)
      have ha := x2.k (k := 5) hT2 ha
      have k3 := x2.k (k := 3) hT2 k3
      refine z_if_eq (tgt := 36) dX5_putForeign_19 (by decide) (fun h4 => ?_) (fun h4 => ?_)
      · replace hP := hP.1 h4
        refine z_iload dX5_putForeign_36 3 rfl ?_
        exact z_reti rfl dX5_putForeign_38 hP
      · replace hP := hP.2 h4
        refine z_aload_n dX5_putForeign_22 rfl 2 rfl ?_
        refine z_aload_n dX5_putForeign_23 rfl 0 rfl ?_
        refine z_pc (pc' := 24) rfl ?_
        refine z_getr (c := 5) (k := 4) (g := 644) (t := 5) z_cb5 (Nat.le_of_ble_eq_true rfl) (Nat.le_of_ble_eq_true rfl) rfl rfl zw_163 rfl ha dX5_putForeign_24 (fun f5 => ?_)
        refine z_wts (fun hT6 _ => ?_)
        refine z_cVv (c := 3) (n := 1) (Y1 := Y_X3_append) (st := []) e3 k3 z_cb3 (Nat.le_of_ble_eq_true rfl) rfl (s_X3_append k3 f5 hP) rfl ⟨z_dc_X3_append, ⟨(Nat.le_of_ble_eq_true rfl), (Nat.le_of_ble_eq_true rfl)⟩, (Nat.le_of_ble_eq_true rfl)⟩ rfl zw_672 zw_673 zw_674 zw_3 zw_675 dX5_putForeign_27 (fun M_6 hP _ x6 => ?_)
        have ha := x6.k (k := 5) hT6 ha
        have k3 := x6.k (k := 3) hT6 k3
        refine z_iincN (j := 3) (m := 1) (lv' := fun v => [(4, z_I v), (0, z_O _), (2, z_I _), (3, z_O _)]) dX5_putForeign_30 rfl (by decide) (Nat.le_of_ble_eq_true rfl) (fun _ => rfl) (fun x_7 y_7 => ?_)
        replace hP := hP x_7 y_7
        refine z_goto (tgt := 9) dX5_putForeign_33 (by decide) ?_
        refine z_sub (lv' := [(0, z_O _), (2, z_I _), (3, z_O _), (4, z_I _)]) [1, 2, 3, 0] rfl ?_
        exact ih ha (z_trn e3 k3) hP
set_option maxRecDepth 100000 in
set_option maxHeartbeats 4000000 in
theorem s_X5_putForeign {G : z_G} {M : z_Mem} {a : Nat} {p1 : Int32} {p2 : Int32} {Post : Int32 → z_Mem → Prop} (ha : z_ki M a = 6) (hP : P_X5_putForeign a p1 p2 M Post) : z_Mt G Y_X5_putForeign M [z_O (some a), z_I p1, z_I p2] (z_PI Post) := by
  refine z_ofV (by decide) (Nat.le_of_ble_eq_true rfl) ?_
  unfold P_X5_putForeign at hP
  refine z_sub (lv' := [(0, z_O (some a)), (1, z_I p1), (2, z_I p2)]) [0, 1, 2] rfl ?_
  refine z_aload_n dX5_putForeign_0 rfl 0 rfl ?_
  refine z_iload_n dX5_putForeign_1 rfl 1 rfl ?_
  refine z_wts (fun hT8 _ => ?_)
  refine z_cVo (c := 5) (n := 1) (Y1 := Y_X5_laneOf) (st := []) rfl ha z_cb5 (Nat.le_of_ble_eq_true rfl) rfl (s_X5_laneOf ha hP) rfl ⟨z_dc_X5_laneOf, ⟨(Nat.le_of_ble_eq_true rfl), (Nat.le_of_ble_eq_true rfl)⟩, (Nat.le_of_ble_eq_true rfl)⟩ rfl zw_667 zw_632 zw_633 zw_2 zw_634 dX5_putForeign_2 (fun x_8 M_8 f8 hP _ x8 => ?_)
  have ha := x8.k (k := 5) hT8 ha
  refine z_astore_n (lv' := [(3, z_O _), (0, z_O _), (1, z_I _), (2, z_I _)]) dX5_putForeign_5 rfl (Nat.le_of_ble_eq_true rfl) rfl ?_
  refine z_iconst (v := 0) dX5_putForeign_6 (by decide) ?_
  refine z_istore (lv' := [(4, z_I _), (3, z_O _), (0, z_O _), (1, z_I _), (2, z_I _)]) dX5_putForeign_7 (Nat.le_of_ble_eq_true rfl) rfl ?_
  obtain ⟨n9, hP⟩ := hP
  refine z_sub (lv' := [(0, z_O _), (2, z_I _), (3, z_O _), (4, z_I _)]) [2, 4, 1, 0] rfl ?_
  exact v_X5_putForeign_9  n9 ha f8 hP
def P_X5_letLeaveLane_57 (a : Nat) (Post : z_Mem → Prop) (J2 : Option Nat → Int32 → z_Mem → Prop) (x1 : Option Nat) (x2 : Int32) (M : z_Mem) : Prop := ∀ x_1 : Int32, x_1 = x2 + 1 → (J2 x1 x_1 M)
set_option maxRecDepth 100000 in
def P_X5_letLeaveLane_2 (a : Nat) (Post : z_Mem → Prop)  : Nat → Option Nat → Int32 → z_Mem → Prop
  | 0, _, _, _ => False
  | n + 1, x1, x2, M => z_nn x1 fun a2 => ((((z_fi M 385 a2) ≤ x2 → Post M) ∧ (¬ (z_fi M 385 a2) ≤ x2 → (((z_fi M 395 a2) ≤ 0 → Post M) ∧ (¬ (z_fi M 395 a2) ≤ 0 → P_X3_removeFirst a2 M fun x_7 M_7 => (((x_7 = none → P_X5_letLeaveLane_57 a Post (fun q0 q1 qM => P_X5_letLeaveLane_2 a Post n q0 q1 qM) x1 x2 M_7) ∧ (∀ a8 : Nat, x_7 = some a8 → (((z_fi M_7 512 a8) = 9 → P_X5_letLeaveLane_57 a Post (fun q0 q1 qM => P_X5_letLeaveLane_2 a Post n q0 q1 qM) x1 x2 M_7) ∧ (¬ (z_fi M_7 512 a8) = 9 → P_X3_takeLateness a2 M_7 fun x_14 M_14 => (z_nn (z_fr M_7 642 a) fun a16 => (P_X10_append a16 x_7 (((z_fi M_7 645 a) + (z_fi M_7 384 a2)) + x_14) M_14 fun M_15 => (P_X5_letLeaveLane_57 a Post (fun q0 q1 qM => P_X5_letLeaveLane_2 a Post n q0 q1 qM) x1 x2 M_15)))))))))))))
set_option maxRecDepth 100000 in
def P_X5_letLeaveLane (a : Nat) (p1 : Option Nat) (M : z_Mem) (Post : z_Mem → Prop) : Prop := (∃ n17 : Nat, P_X5_letLeaveLane_2 a Post n17 p1 0 M)
set_option maxRecDepth 100000 in
set_option maxHeartbeats 4000000 in
theorem v_X5_letLeaveLane_57 {G : z_G} {M0 : z_Mem} {a : Nat} {Post : z_Mem → Prop} {J2 : Option Nat → Int32 → z_Mem → Prop} (hJ2 : ∀ (x1 : Option Nat) (x2 : Int32) (M : z_Mem), (z_ki M a = 6) → (z_tr M x1 4) → J2 x1 x2 M → z_V G Y_X5_letLeaveLane z_X0 M0 (z_QM G M0 (z_PV Post)) M 2 [(0, z_O (some a)), (1, z_O x1), (2, z_I x2)] []) {x1 : Option Nat} {x2 : Int32} {M : z_Mem} (ha : z_ki M a = 6) (f_x1 : z_tr M x1 4) (hP : P_X5_letLeaveLane_57 a Post J2 x1 x2 M) : z_V G Y_X5_letLeaveLane z_X0 M0 (z_QM G M0 (z_PV Post)) M 57 [(0, z_O (some a)), (1, z_O x1), (2, z_I x2)] [] := by
  unfold P_X5_letLeaveLane_57 at hP
  refine z_iincN (j := 2) (m := 1) (lv' := fun v => [(2, z_I v), (0, z_O _), (1, z_O _)]) dX5_letLeaveLane_57 rfl (by decide) (Nat.le_of_ble_eq_true rfl) (fun _ => rfl) (fun x_1 y_1 => ?_)
  replace hP := hP x_1 y_1
  refine z_goto (tgt := 2) dX5_letLeaveLane_60 (by decide) ?_
  refine z_sub (lv' := [(0, z_O _), (1, z_O _), (2, z_I _)]) [1, 2, 0] rfl ?_
  exact hJ2 _ _ _ ha f_x1 hP
set_option maxRecDepth 100000 in
set_option maxHeartbeats 4000000 in
theorem v_X5_letLeaveLane_2 {G : z_G} {M0 : z_Mem} {a : Nat} {Post : z_Mem → Prop}   : ∀ (n : Nat) {x1 : Option Nat} {x2 : Int32} {M : z_Mem}, (z_ki M a = 6) → (z_tr M x1 4) → P_X5_letLeaveLane_2 a Post n x1 x2 M → z_V G Y_X5_letLeaveLane z_X0 M0 (z_QM G M0 (z_PV Post)) M 2 [(0, z_O (some a)), (1, z_O x1), (2, z_I x2)] [] := by
  intro n
  induction n with
  | zero => intro x1 x2 M ha f_x1 hP; exact False.elim hP
  | succ n ih =>
    intro x1 x2 M ha f_x1 hP
    unfold P_X5_letLeaveLane_2 at hP
    refine z_iload_n dX5_letLeaveLane_2 rfl 2 rfl ?_
    refine z_aload_n dX5_letLeaveLane_3 rfl 1 rfl ?_
    obtain ⟨a2, e2, hP⟩ := hP
    have k2 := f_x1 a2 e2
    refine z_geti (c := 3) (k := 1) (g := 385) z_cb3 (Nat.le_of_ble_eq_true rfl) (Nat.le_of_ble_eq_true rfl) rfl (Nat.le_of_ble_eq_true rfl) zw_49 e2 k2 dX5_letLeaveLane_4 ?_
    refine z_icmp_ge (tgt := 63) dX5_letLeaveLane_7 (by decide) (fun h4 => ?_) (fun h4 => ?_)
    · replace hP := hP.1 h4
      exact z_retv rfl dX5_letLeaveLane_63 hP
    · replace hP := hP.2 h4
      refine z_aload_n dX5_letLeaveLane_10 rfl 1 rfl ?_
      refine z_geti (c := 3) (k := 11) (g := 395) z_cb3 (Nat.le_of_ble_eq_true rfl) (Nat.le_of_ble_eq_true rfl) rfl (Nat.le_of_ble_eq_true rfl) zw_67 e2 k2 dX5_letLeaveLane_11 ?_
      refine z_if_le (tgt := 63) dX5_letLeaveLane_14 (by decide) (fun h6 => ?_) (fun h6 => ?_)
      · replace hP := hP.1 h6
        exact z_retv rfl dX5_letLeaveLane_63 hP
      · replace hP := hP.2 h6
        refine z_aload_n dX5_letLeaveLane_17 rfl 1 rfl ?_
        refine z_pc (pc' := 18) rfl ?_
        refine z_wts (fun hT7 _ => ?_)
        refine z_cVo (c := 3) (n := 0) (Y1 := Y_X3_removeFirst) (st := []) e2 k2 z_cb3 (Nat.le_of_ble_eq_true rfl) rfl (s_X3_removeFirst k2 hP) rfl ⟨z_dc_X3_removeFirst, ⟨(Nat.le_of_ble_eq_true rfl), (Nat.le_of_ble_eq_true rfl)⟩, (Nat.le_of_ble_eq_true rfl)⟩ rfl zw_1178 zw_1179 zw_1180 zw_3 zw_1181 dX5_letLeaveLane_18 (fun x_7 M_7 f7 hP _ x7 => ?_)
        have ha := x7.k (k := 5) hT7 ha
        have k2 := x7.k (k := 3) hT7 k2
        refine z_astore_n (lv' := [(3, z_O _), (0, z_O _), (1, z_O _), (2, z_I _)]) dX5_letLeaveLane_21 rfl (Nat.le_of_ble_eq_true rfl) rfl ?_
        refine z_aload_n dX5_letLeaveLane_22 rfl 0 rfl ?_
        refine z_ifnull (tgt := 57) dX5_letLeaveLane_23 (by decide) (fun h8 => ?_) (fun a8 e8 => ?_)
        · replace hP := hP.1 h8
          refine z_sub (lv' := [(0, z_O _), (1, z_O _), (2, z_I _)]) [1, 2, 3] rfl ?_
          exact v_X5_letLeaveLane_57 (fun _ _ _ w0 w1 hP => ih w0 w1 hP) ha (z_trn e2 k2) hP
        · replace hP := hP.2 a8 e8
          have k8 := f7 a8 e8
          refine z_aload_n dX5_letLeaveLane_26 rfl 0 rfl ?_
          refine z_geti (c := 4) (k := 0) (g := 512) z_cb4 (Nat.le_of_ble_eq_true rfl) (Nat.le_of_ble_eq_true rfl) rfl (Nat.le_of_ble_eq_true rfl) zw_122 e8 k8 dX5_letLeaveLane_27 ?_
          refine z_bipush (v := 9) dX5_letLeaveLane_30 (by decide) ?_
          refine z_pc (pc' := 32) rfl ?_
          refine z_icmp_eq (tgt := 57) dX5_letLeaveLane_32 (by decide) (fun h10 => ?_) (fun h10 => ?_)
          · replace hP := hP.1 h10
            refine z_sub (lv' := [(0, z_O _), (1, z_O _), (2, z_I _)]) [1, 2, 3] rfl ?_
            exact v_X5_letLeaveLane_57 (fun _ _ _ w0 w1 hP => ih w0 w1 hP) ha (z_trn e2 k2) hP
          · replace hP := hP.2 h10
            refine z_aload_n dX5_letLeaveLane_35 rfl 1 rfl ?_
            refine z_getr (c := 5) (k := 2) (g := 642) (t := 11) z_cb5 (Nat.le_of_ble_eq_true rfl) (Nat.le_of_ble_eq_true rfl) rfl rfl zw_159 rfl ha dX5_letLeaveLane_36 (fun f11 => ?_)
            refine z_aload_n dX5_letLeaveLane_39 rfl 0 rfl ?_
            refine z_aload_n dX5_letLeaveLane_40 rfl 1 rfl ?_
            refine z_geti (c := 5) (k := 5) (g := 645) z_cb5 (Nat.le_of_ble_eq_true rfl) (Nat.le_of_ble_eq_true rfl) rfl (Nat.le_of_ble_eq_true rfl) zw_164 rfl ha dX5_letLeaveLane_41 ?_
            refine z_aload_n dX5_letLeaveLane_44 rfl 2 rfl ?_
            refine z_pc (pc' := 45) rfl ?_
            refine z_geti (c := 3) (k := 0) (g := 384) z_cb3 (Nat.le_of_ble_eq_true rfl) (Nat.le_of_ble_eq_true rfl) rfl (Nat.le_of_ble_eq_true rfl) zw_46 e2 k2 dX5_letLeaveLane_45 ?_
            refine z_iadd dX5_letLeaveLane_48 ?_
            refine z_aload_n dX5_letLeaveLane_49 rfl 2 rfl ?_
            refine z_wts (fun hT14 _ => ?_)
            refine z_cVi (c := 3) (n := 0) (Y1 := Y_X3_takeLateness) (st := [z_I _, z_O _, z_O _]) e2 k2 z_cb3 (Nat.le_of_ble_eq_true rfl) rfl (s_X3_takeLateness k2 hP) rfl ⟨z_dc_X3_takeLateness, ⟨(Nat.le_of_ble_eq_true rfl), (Nat.le_of_ble_eq_true rfl)⟩, (Nat.le_of_ble_eq_true rfl)⟩ rfl zw_1182 zw_1183 zw_1184 zw_3 zw_1185 dX5_letLeaveLane_50 (fun x_14 M_14 hP _ x14 => ?_)
            have ha := x14.k (k := 5) hT14 ha
            have k8 := x14.k (k := 4) hT14 k8
            have k2 := x14.k (k := 3) hT14 k2
            have f11 := x14.t (k := 10) hT14 f11
            refine z_iadd dX5_letLeaveLane_53 ?_
            obtain ⟨a16, e16, hP⟩ := hP
            have k16 := f11 a16 e16
            refine z_wts (fun hT15 _ => ?_)
            refine z_cVv (c := 10) (n := 2) (Y1 := Y_X10_append) (st := []) e16 k16 z_cb10 (Nat.le_of_ble_eq_true rfl) rfl (s_X10_append k16 (z_trn e8 k8) hP) rfl ⟨z_dc_X10_append, ⟨(Nat.le_of_ble_eq_true rfl), (Nat.le_of_ble_eq_true rfl)⟩, (Nat.le_of_ble_eq_true rfl)⟩ rfl zw_753 zw_754 zw_755 zw_4 zw_756 dX5_letLeaveLane_54 (fun M_15 hP _ x15 => ?_)
            have ha := x15.k (k := 5) hT15 ha
            have k8 := x15.k (k := 4) hT15 k8
            have k2 := x15.k (k := 3) hT15 k2
            refine z_sub (lv' := [(0, z_O _), (1, z_O _), (2, z_I _)]) [1, 2, 3] rfl ?_
            exact v_X5_letLeaveLane_57 (fun _ _ _ w0 w1 hP => ih w0 w1 hP) ha (z_trn e2 k2) hP
set_option maxRecDepth 100000 in
set_option maxHeartbeats 4000000 in
theorem s_X5_letLeaveLane {G : z_G} {M : z_Mem} {a : Nat} {p1 : Option Nat} {Post : z_Mem → Prop} (ha : z_ki M a = 6) (f_p1 : z_tr M p1 4) (hP : P_X5_letLeaveLane a p1 M Post) : z_Mt G Y_X5_letLeaveLane M [z_O (some a), z_O p1] (z_PV Post) := by
  refine z_ofV (by decide) (Nat.le_of_ble_eq_true rfl) ?_
  unfold P_X5_letLeaveLane at hP
  refine z_sub (lv' := [(0, z_O (some a)), (1, z_O p1)]) [0, 1] rfl ?_
  refine z_iconst (v := 0) dX5_letLeaveLane_0 (by decide) ?_
  refine z_istore_n (lv' := [(2, z_I _), (0, z_O _), (1, z_O _)]) dX5_letLeaveLane_1 rfl (Nat.le_of_ble_eq_true rfl) rfl ?_
  obtain ⟨n17, hP⟩ := hP
  refine z_sub (lv' := [(0, z_O _), (1, z_O _), (2, z_I _)]) [1, 2, 0] rfl ?_
  exact v_X5_letLeaveLane_2  n17 ha f_p1 hP
set_option maxRecDepth 100000 in
def P_X5_letLeave (a : Nat) (M : z_Mem) (Post : z_Mem → Prop) : Prop := P_X5_letLeaveLane a (z_fr M 640 a) M fun M_2 => (P_X5_letLeaveLane a (z_fr M_2 641 a) M_2 fun M_4 => (Post M_4))
set_option maxRecDepth 100000 in
set_option maxHeartbeats 4000000 in
theorem s_X5_letLeave {G : z_G} {M : z_Mem} {a : Nat} {Post : z_Mem → Prop} (ha : z_ki M a = 6) (hP : P_X5_letLeave a M Post) : z_Mt G Y_X5_letLeave M [z_O (some a)] (z_PV Post) := by
  refine z_ofV (by decide) (Nat.le_of_ble_eq_true rfl) ?_
  unfold P_X5_letLeave at hP
  refine z_sub (lv' := [(0, z_O (some a))]) [0] rfl ?_
  refine z_aload_n dX5_letLeave_0 rfl 0 rfl ?_
  refine z_aload_n dX5_letLeave_1 rfl 0 rfl ?_
  refine z_getr (c := 5) (k := 0) (g := 640) (t := 4) z_cb5 (Nat.le_of_ble_eq_true rfl) (Nat.le_of_ble_eq_true rfl) rfl rfl zw_157 rfl ha dX5_letLeave_2 (fun f1 => ?_)
  refine z_wts (fun hT2 _ => ?_)
  refine z_cVv (c := 5) (n := 1) (Y1 := Y_X5_letLeaveLane) (st := []) rfl ha z_cb5 (Nat.le_of_ble_eq_true rfl) rfl (s_X5_letLeaveLane ha f1 hP) rfl ⟨z_dc_X5_letLeaveLane, ⟨(Nat.le_of_ble_eq_true rfl), (Nat.le_of_ble_eq_true rfl)⟩, (Nat.le_of_ble_eq_true rfl)⟩ rfl zw_1174 zw_1176 zp_29 zw_2 zw_1177 dX5_letLeave_5 (fun M_2 hP _ x2 => ?_)
  have ha := x2.k (k := 5) hT2 ha
  refine z_aload_n dX5_letLeave_8 rfl 0 rfl ?_
  refine z_aload_n dX5_letLeave_9 rfl 0 rfl ?_
  refine z_pc (pc' := 10) rfl ?_
  refine z_getr (c := 5) (k := 1) (g := 641) (t := 4) z_cb5 (Nat.le_of_ble_eq_true rfl) (Nat.le_of_ble_eq_true rfl) rfl rfl zw_158 rfl ha dX5_letLeave_10 (fun f3 => ?_)
  refine z_wts (fun hT4 _ => ?_)
  refine z_cVv (c := 5) (n := 1) (Y1 := Y_X5_letLeaveLane) (st := []) rfl ha z_cb5 (Nat.le_of_ble_eq_true rfl) rfl (s_X5_letLeaveLane ha f3 hP) rfl ⟨z_dc_X5_letLeaveLane, ⟨(Nat.le_of_ble_eq_true rfl), (Nat.le_of_ble_eq_true rfl)⟩, (Nat.le_of_ble_eq_true rfl)⟩ rfl zw_1174 zw_1176 zp_29 zw_2 zw_1177 dX5_letLeave_13 (fun M_4 hP _ x4 => ?_)
  have ha := x4.k (k := 5) hT4 ha
  exact z_retv rfl dX5_letLeave_16 hP
set_option maxRecDepth 100000 in
def P_X8_init (a : Nat) (p1 : Option Nat) (p2 : Option Nat) (M : z_Mem) (Post : z_Mem → Prop) : Prop := ∀ M_1 : z_Mem, M_1 = z_sfi M 1026 a 0 → (z_room M_1 10 ∧ (∀ M_3 : z_Mem, M_3 = z_nwa M_1 21 10 → (∀ M_4 : z_Mem, M_4 = z_sfr M_3 1029 a (some (z_sz M_1)) → (∀ M_5 : z_Mem, M_5 = z_sfi M_4 1031 a (-1) → (z_room M_5 400 ∧ (∀ M_7 : z_Mem, M_7 = z_nwa M_5 21 400 → (∀ M_8 : z_Mem, M_8 = z_sfr M_7 1033 a (some (z_sz M_5)) → (∀ M_9 : z_Mem, M_9 = z_sfi M_8 1034 a (-1) → (∀ M_10 : z_Mem, M_10 = z_sfi M_9 1037 a (-1) → (∀ M_11 : z_Mem, M_11 = z_sfi M_10 1038 a (-1) → (∀ M_12 : z_Mem, M_12 = z_sfr M_11 1024 a p1 → (∀ M_13 : z_Mem, M_13 = z_sfr M_12 1025 a p2 → (Post M_13)))))))))))))
set_option maxRecDepth 100000 in
set_option maxHeartbeats 4000000 in
theorem s_X8_init {G : z_G} {M : z_Mem} {a : Nat} {p1 : Option Nat} {p2 : Option Nat} {Post : z_Mem → Prop} (ha : z_ki M a = 9) (f_p1 : z_tr M p1 6) (f_p2 : z_tr M p2 24) (hP : P_X8_init a p1 p2 M Post) : z_Mt G Y_X8_init M [z_O (some a), z_O p1, z_O p2] (z_PV Post) := by
  refine z_ofV (by decide) (Nat.le_of_ble_eq_true rfl) ?_
  unfold P_X8_init at hP
  refine z_sub (lv' := [(0, z_O (some a)), (1, z_O p1), (2, z_O p2)]) [0, 1, 2] rfl ?_
  refine z_aload_n dX8_init_0 rfl 0 rfl ?_
  refine z_objInit rfl zw_237 zw_28 zw_29 dX8_init_1 (Nat.le_of_ble_eq_true rfl) (Nat.le_of_ble_eq_true rfl) ?_
  refine z_aload_n dX8_init_4 rfl 0 rfl ?_
  refine z_iconst (v := 0) dX8_init_5 (by decide) ?_
  refine z_puti (c := 8) (k := 2) (g := 1026) z_cb8 (Nat.le_of_ble_eq_true rfl) (Nat.le_of_ble_eq_true rfl) (Nat.le_of_ble_eq_true rfl) rfl rfl rfl zw_240 rfl ha (Or.inl rfl) dX8_init_6 ?_
  refine z_nm (fun M_1 g_1 => ?_)
  replace hP := hP M_1 g_1
  have q_1 := z_k1 g_1
  have ha := z_kk q_1 ha
  have f_p1 := z_trk q_1 f_p1
  have f_p2 := z_trk q_1 f_p2
  refine z_aload_n dX8_init_9 rfl 0 rfl ?_
  refine z_pc (pc' := 10) rfl ?_
  refine z_bipush (v := 10) dX8_init_10 (by decide) ?_
  obtain ⟨r2, hP⟩ := hP
  refine z_wts (fun hT2 _ => ?_)
  refine z_newa (t := 21) (N := 10) (Or.inr (Or.inl ⟨rfl, rfl⟩)) zw_230 rfl (Nat.le_of_ble_eq_true rfl) r2 dX8_init_12 (fun x2 k2 => ?_)
  refine z_nm (fun M_3 g_3 => ?_)
  replace hP := hP M_3 g_3
  have x2 := z_xe g_3 x2
  have k2 := z_xk g_3 k2
  have ha := x2.k (k := 8) hT2 ha
  have f_p1 := x2.t (k := 5) hT2 f_p1
  have f_p2 := x2.t (k := 23) hT2 f_p2
  refine z_putr (c := 8) (k := 5) (g := 1029) (t := 21) z_cb8 (Nat.le_of_ble_eq_true rfl) (Nat.le_of_ble_eq_true rfl) rfl rfl rfl zw_245 rfl ha (z_trn rfl k2) (Or.inr ⟨rfl, rfl, rfl⟩) dX8_init_14 ?_
  refine z_nm (fun M_4 g_4 => ?_)
  replace hP := hP M_4 g_4
  have q_4 := z_k2 g_4
  have ha := z_kk q_4 ha
  have f_p1 := z_trk q_4 f_p1
  have f_p2 := z_trk q_4 f_p2
  refine z_aload_n dX8_init_17 rfl 0 rfl ?_
  refine z_iconst (v := (-1)) dX8_init_18 (by decide) ?_
  refine z_puti (c := 8) (k := 7) (g := 1031) z_cb8 (Nat.le_of_ble_eq_true rfl) (Nat.le_of_ble_eq_true rfl) (Nat.le_of_ble_eq_true rfl) rfl rfl rfl zw_248 rfl ha (Or.inl rfl) dX8_init_19 ?_
  refine z_nm (fun M_5 g_5 => ?_)
  replace hP := hP M_5 g_5
  have q_5 := z_k1 g_5
  have ha := z_kk q_5 ha
  have f_p1 := z_trk q_5 f_p1
  have f_p2 := z_trk q_5 f_p2
  refine z_pc (pc' := 22) rfl ?_
  refine z_aload_n dX8_init_22 rfl 0 rfl ?_
  refine z_sipush (v := 400) dX8_init_23 (by decide) ?_
  obtain ⟨r6, hP⟩ := hP
  refine z_wts (fun hT6 _ => ?_)
  refine z_newa (t := 21) (N := 400) (Or.inr (Or.inl ⟨rfl, rfl⟩)) zw_230 rfl (Nat.le_of_ble_eq_true rfl) r6 dX8_init_26 (fun x6 k6 => ?_)
  refine z_nm (fun M_7 g_7 => ?_)
  replace hP := hP M_7 g_7
  have x6 := z_xe g_7 x6
  have k6 := z_xk g_7 k6
  have ha := x6.k (k := 8) hT6 ha
  have f_p1 := x6.t (k := 5) hT6 f_p1
  have f_p2 := x6.t (k := 23) hT6 f_p2
  refine z_putr (c := 8) (k := 9) (g := 1033) (t := 21) z_cb8 (Nat.le_of_ble_eq_true rfl) (Nat.le_of_ble_eq_true rfl) rfl rfl rfl zw_250 rfl ha (z_trn rfl k6) (Or.inr ⟨rfl, rfl, rfl⟩) dX8_init_28 ?_
  refine z_nm (fun M_8 g_8 => ?_)
  replace hP := hP M_8 g_8
  have q_8 := z_k2 g_8
  have ha := z_kk q_8 ha
  have f_p1 := z_trk q_8 f_p1
  have f_p2 := z_trk q_8 f_p2
  refine z_aload_n dX8_init_31 rfl 0 rfl ?_
  refine z_iconst (v := (-1)) dX8_init_32 (by decide) ?_
  refine z_pc (pc' := 33) rfl ?_
  refine z_puti (c := 8) (k := 10) (g := 1034) z_cb8 (Nat.le_of_ble_eq_true rfl) (Nat.le_of_ble_eq_true rfl) (Nat.le_of_ble_eq_true rfl) rfl rfl rfl zw_251 rfl ha (Or.inl rfl) dX8_init_33 ?_
  refine z_nm (fun M_9 g_9 => ?_)
  replace hP := hP M_9 g_9
  have q_9 := z_k1 g_9
  have ha := z_kk q_9 ha
  have f_p1 := z_trk q_9 f_p1
  have f_p2 := z_trk q_9 f_p2
  refine z_aload_n dX8_init_36 rfl 0 rfl ?_
  refine z_iconst (v := (-1)) dX8_init_37 (by decide) ?_
  refine z_puti (c := 8) (k := 13) (g := 1037) z_cb8 (Nat.le_of_ble_eq_true rfl) (Nat.le_of_ble_eq_true rfl) (Nat.le_of_ble_eq_true rfl) rfl rfl rfl zw_254 rfl ha (Or.inl rfl) dX8_init_38 ?_
  refine z_nm (fun M_10 g_10 => ?_)
  replace hP := hP M_10 g_10
  have q_10 := z_k1 g_10
  have ha := z_kk q_10 ha
  have f_p1 := z_trk q_10 f_p1
  have f_p2 := z_trk q_10 f_p2
  refine z_aload_n dX8_init_41 rfl 0 rfl ?_
  refine z_iconst (v := (-1)) dX8_init_42 (by decide) ?_
  refine z_pc (pc' := 43) rfl ?_
  refine z_puti (c := 8) (k := 14) (g := 1038) z_cb8 (Nat.le_of_ble_eq_true rfl) (Nat.le_of_ble_eq_true rfl) (Nat.le_of_ble_eq_true rfl) rfl rfl rfl zw_255 rfl ha (Or.inl rfl) dX8_init_43 ?_
  refine z_nm (fun M_11 g_11 => ?_)
  replace hP := hP M_11 g_11
  have q_11 := z_k1 g_11
  have ha := z_kk q_11 ha
  have f_p1 := z_trk q_11 f_p1
  have f_p2 := z_trk q_11 f_p2
  refine z_aload_n dX8_init_46 rfl 0 rfl ?_
  refine z_aload_n dX8_init_47 rfl 1 rfl ?_
  refine z_putr (c := 8) (k := 0) (g := 1024) (t := 6) z_cb8 (Nat.le_of_ble_eq_true rfl) (Nat.le_of_ble_eq_true rfl) rfl rfl rfl zw_238 rfl ha f_p1 (Or.inr ⟨rfl, rfl, rfl⟩) dX8_init_48 ?_
  refine z_nm (fun M_12 g_12 => ?_)
  replace hP := hP M_12 g_12
  have q_12 := z_k2 g_12
  have ha := z_kk q_12 ha
  have f_p1 := z_trk q_12 f_p1
  have f_p2 := z_trk q_12 f_p2
  refine z_aload_n dX8_init_51 rfl 0 rfl ?_
  refine z_aload_n dX8_init_52 rfl 2 rfl ?_
  refine z_pc (pc' := 53) rfl ?_
  refine z_putr (c := 8) (k := 1) (g := 1025) (t := 24) z_cb8 (Nat.le_of_ble_eq_true rfl) (Nat.le_of_ble_eq_true rfl) rfl rfl rfl zw_239 rfl ha f_p2 (Or.inr ⟨rfl, rfl, rfl⟩) dX8_init_53 ?_
  refine z_nm (fun M_13 g_13 => ?_)
  replace hP := hP M_13 g_13
  have q_13 := z_k2 g_13
  have ha := z_kk q_13 ha
  have f_p1 := z_trk q_13 f_p1
  have f_p2 := z_trk q_13 f_p2
  exact z_retv rfl dX8_init_56 hP
set_option maxRecDepth 100000 in
def P_X8_nextTaken_2 (a : Nat) (Post : Int32 → z_Mem → Prop)  : Nat → Int32 → Int32 → z_Mem → Prop
  | 0, _, _, _ => False
  | n + 1, x2, x3, M => ((x3 < 0 → Post x3 M) ∧ (¬ x3 < 0 → ((400 ≤ x3 → Post x3 M) ∧ (¬ 400 ≤ x3 → z_nn (z_fr M 1033 a) fun a4 => (vp_in x3 (z_ln M a4) ∧ ((((z_ai M a4 ((x3 : Int32).toNatClampNeg)) = x2 → Post x3 M) ∧ (¬ (z_ai M a4 ((x3 : Int32).toNatClampNeg)) = x2 → ∀ x_7 : Int32, x_7 = x3 + (-1) → (P_X8_nextTaken_2 a Post n x2 x_7 M)))))))))
set_option maxRecDepth 100000 in
def P_X8_nextTaken (a : Nat) (p1 : Int32) (p2 : Int32) (M : z_Mem) (Post : Int32 → z_Mem → Prop) : Prop := (∃ n8 : Nat, P_X8_nextTaken_2 a Post n8 p2 p1 M)
set_option maxRecDepth 100000 in
set_option maxHeartbeats 4000000 in
theorem v_X8_nextTaken_2 {G : z_G} {M0 : z_Mem} {a : Nat} {Post : Int32 → z_Mem → Prop}   : ∀ (n : Nat) {x2 : Int32} {x3 : Int32} {M : z_Mem}, (z_ki M a = 9) → (x2 = 0 ∨ x2 = 1) → P_X8_nextTaken_2 a Post n x2 x3 M → z_V G Y_X8_nextTaken z_X0 M0 (z_QM G M0 (z_PI Post)) M 2 [(0, z_O (some a)), (2, z_I x2), (3, z_I x3)] [] := by
  intro n
  induction n with
  | zero => intro x2 x3 M ha f_x2 hP; exact False.elim hP
  | succ n ih =>
    intro x2 x3 M ha f_x2 hP
    unfold P_X8_nextTaken_2 at hP
    refine z_iload_n dX8_nextTaken_2 rfl 2 rfl ?_
    refine z_if_lt (tgt := 29) dX8_nextTaken_3 (by decide) (fun h1 => ?_) (fun h1 => ?_)
    · replace hP := hP.1 h1
      refine z_iload_n dX8_nextTaken_29 rfl 2 rfl ?_
      exact z_reti rfl dX8_nextTaken_30 hP
    · replace hP := hP.2 h1
      refine z_iload_n dX8_nextTaken_6 rfl 2 rfl ?_
      refine z_sipush (v := 400) dX8_nextTaken_7 (by decide) ?_
      refine z_icmp_ge (tgt := 29) dX8_nextTaken_10 (by decide) (fun h2 => ?_) (fun h2 => ?_)
      · replace hP := hP.1 h2
        refine z_iload_n dX8_nextTaken_29 rfl 2 rfl ?_
        exact z_reti rfl dX8_nextTaken_30 hP
      · replace hP := hP.2 h2
        refine z_aload_n dX8_nextTaken_13 rfl 0 rfl ?_
        refine z_getr (c := 8) (k := 9) (g := 1033) (t := 21) z_cb8 (Nat.le_of_ble_eq_true rfl) (Nat.le_of_ble_eq_true rfl) rfl rfl zw_250 rfl ha dX8_nextTaken_14 (fun f3 => ?_)
        refine z_iload_n dX8_nextTaken_17 rfl 2 rfl ?_
        refine z_pc (pc' := 18) rfl ?_
        obtain ⟨a4, e4, hP⟩ := hP
        have k4 := f3 a4 e4
        obtain ⟨i5, hP⟩ := hP
        refine z_zald e4 k4 i5 dX8_nextTaken_18 (fun b5 => ?_)
        refine z_iload_n dX8_nextTaken_19 rfl 1 rfl ?_
        refine z_icmp_eq (tgt := 29) dX8_nextTaken_20 (by decide) (fun h6 => ?_) (fun h6 => ?_)
        · replace hP := hP.1 h6
          refine z_iload_n dX8_nextTaken_29 rfl 2 rfl ?_
          exact z_reti rfl dX8_nextTaken_30 hP
        · replace hP := hP.2 h6
          refine z_iincN (j := 2) (m := (-1)) (lv' := fun v => [(3, z_I v), (0, z_O _), (2, z_I _)]) dX8_nextTaken_23 rfl (by decide) (Nat.le_of_ble_eq_true rfl) (fun _ => rfl) (fun x_7 y_7 => ?_)
          replace hP := hP x_7 y_7
          refine z_goto (tgt := 2) dX8_nextTaken_26 (by decide) ?_
          refine z_sub (lv' := [(0, z_O _), (2, z_I _), (3, z_I _)]) [1, 2, 0] rfl ?_
          exact ih ha f_x2 hP
set_option maxRecDepth 100000 in
set_option maxHeartbeats 4000000 in
theorem s_X8_nextTaken {G : z_G} {M : z_Mem} {a : Nat} {p1 : Int32} {p2 : Int32} {Post : Int32 → z_Mem → Prop} (ha : z_ki M a = 9) (f_p2 : p2 = 0 ∨ p2 = 1) (hP : P_X8_nextTaken a p1 p2 M Post) : z_Mt G Y_X8_nextTaken M [z_O (some a), z_I p1, z_I p2] (z_PI Post) := by
  refine z_ofV (by decide) (Nat.le_of_ble_eq_true rfl) ?_
  unfold P_X8_nextTaken at hP
  refine z_sub (lv' := [(0, z_O (some a)), (1, z_I p1), (2, z_I p2)]) [0, 1, 2] rfl ?_
  refine z_iload_n dX8_nextTaken_0 rfl 1 rfl ?_
  refine z_istore_n (lv' := [(3, z_I _), (0, z_O _), (1, z_I _), (2, z_I _)]) dX8_nextTaken_1 rfl (Nat.le_of_ble_eq_true rfl) rfl ?_
  obtain ⟨n8, hP⟩ := hP
  refine z_sub (lv' := [(0, z_O _), (2, z_I _), (3, z_I _)]) [1, 3, 0] rfl ?_
  exact v_X8_nextTaken_2  n8 ha f_p2 hP
set_option maxRecDepth 100000 in
def P_X8_makeAck_73 (a : Nat) (Post : Option Nat → z_Mem → Prop)  : Nat → Option Nat → Int32 → Int32 → z_Mem → Prop
  | 0, _, _, _, _ => False
  | n + 1, x1, x3, x4, M => ((4 ≤ x4 → z_nn x1 fun a2 => (∀ M_3 : z_Mem, M_3 = z_sfi M 5 a2 (100 + x3) → (Post x1 M_3))) ∧ (¬ 4 ≤ x4 → z_nn x1 fun a4 => (z_nn (z_fr M 1025 a) fun a7 => (vp_in x4 (z_ln M a7) ∧ (z_nn (z_ar M a7 ((x4 : Int32).toNatClampNeg)) fun a9 => (z_nn (z_fr M 2 a4) fun a11 => (vp_in x4 (z_ln M a11) ∧ (∀ M_13 : z_Mem, M_13 = z_sai M a11 ((x4 : Int32).toNatClampNeg) (40 + (z_fi M 1158 a9)) → (z_nn (z_fr M_13 1025 a) fun a15 => (vp_in x4 (z_ln M_13 a15) ∧ (z_nn (z_ar M_13 a15 ((x4 : Int32).toNatClampNeg)) fun a17 => (∀ x_19 : Int32, x_19 = (x3 + (z_fi M_13 1158 a17)) → (∀ x_20 : Int32, x_20 = x4 + 1 → (P_X8_makeAck_73 a Post n x1 x_19 x_20 M_13))))))))))))))
def P_X8_makeAck_60 (a : Nat) (Post : Option Nat → z_Mem → Prop)  (x1 : Option Nat) (M : z_Mem) : Prop := z_nn x1 fun a22 => (∀ M_23 : z_Mem, M_23 = z_sfi M 4 a22 (z_fi M 1035 a) → ((∃ n24 : Nat, P_X8_makeAck_73 a Post n24 x1 0 0 M_23)))
set_option maxRecDepth 100000 in
def P_X8_makeAck_20 (a : Nat) (Post : Option Nat → z_Mem → Prop)  : Nat → Option Nat → Int32 → Int32 → z_Mem → Prop
  | 0, _, _, _, _ => False
  | n + 1, x1, x2, x3, M => ((4 ≤ x3 → P_X8_makeAck_60 a Post x1 M) ∧ (¬ 4 ≤ x3 → ((x2 < 0 → P_X8_makeAck_60 a Post x1 M) ∧ (¬ x2 < 0 → P_X8_nextTaken a x2 0 M fun x_27 M_27 => (z_nn x1 fun a29 => (P_X0_addRange a29 (x_27 + 1) x2 M_27 fun M_28 => (P_X8_nextTaken a x_27 1 M_28 fun x_30 M_30 => (∀ x_31 : Int32, x_31 = x3 + 1 → (P_X8_makeAck_20 a Post n x1 x_30 x_31 M_30)))))))))
set_option maxRecDepth 100000 in
def P_X8_makeAck (a : Nat) (M : z_Mem) (Post : Option Nat → z_Mem → Prop) : Prop := z_room M 6 ∧ (∀ M_33 : z_Mem, M_33 = z_new M 1 6 → (P_X0_init (z_sz M) M_33 fun M_34 => (P_X8_nextTaken a (z_fi M_34 1034 a) 1 M_34 fun x_36 M_36 => ((∃ n37 : Nat, P_X8_makeAck_20 a Post n37 (some (z_sz M)) x_36 0 M_36)))))
set_option maxRecDepth 100000 in
set_option maxHeartbeats 4000000 in
theorem v_X8_makeAck_73 {G : z_G} {M0 : z_Mem} {a : Nat} {Post : Option Nat → z_Mem → Prop}   : ∀ (n : Nat) {x1 : Option Nat} {x3 : Int32} {x4 : Int32} {M : z_Mem}, (z_ki M a = 9) → (z_tr M x1 1) → P_X8_makeAck_73 a Post n x1 x3 x4 M → z_V G Y_X8_makeAck z_X0 M0 (z_QM G M0 (z_PO 1 Post)) M 73 [(0, z_O (some a)), (1, z_O x1), (3, z_I x3), (4, z_I x4)] [] := by
  intro n
  induction n with
  | zero => intro x1 x3 x4 M ha f_x1 hP; exact False.elim hP
  | succ n ih =>
    intro x1 x3 x4 M ha f_x1 hP
    unfold P_X8_makeAck_73 at hP
    refine z_iload dX8_makeAck_73 3 rfl ?_
    refine z_iconst (v := 4) dX8_makeAck_75 (by decide) ?_
    refine z_icmp_ge (tgt := 118) dX8_makeAck_76 (by decide) (fun h1 => ?_) (fun h1 => ?_)
    · replace hP := hP.1 h1
      refine z_aload_n dX8_makeAck_118 rfl 1 rfl ?_
      refine z_bipush (v := 100) dX8_makeAck_119 (by decide) ?_
      refine z_iload_n dX8_makeAck_121 rfl 2 rfl ?_
      refine z_iadd dX8_makeAck_122 ?_
      refine z_pc (pc' := 123) rfl ?_
      obtain ⟨a2, e2, hP⟩ := hP
      have k2 := f_x1 a2 e2
      refine z_puti (c := 0) (k := 5) (g := 5) z_cb0 (Nat.le_of_ble_eq_true rfl) (Nat.le_of_ble_eq_true rfl) (Nat.le_of_ble_eq_true rfl) rfl rfl rfl zw_722 e2 k2 (Or.inl rfl) dX8_makeAck_123 ?_
      refine z_nm (fun M_3 g_3 => ?_)
      replace hP := hP M_3 g_3
      have q_3 := z_k1 g_3
      have ha := z_kk q_3 ha
      have k2 := z_kk q_3 k2
      refine z_aload_n dX8_makeAck_126 rfl 1 rfl ?_
      exact z_reto (k := 1) rfl (z_trn e2 k2) dX8_makeAck_127 hP
    · replace hP := hP.2 h1
      refine z_aload_n dX8_makeAck_79 rfl 1 rfl ?_
      obtain ⟨a4, e4, hP⟩ := hP
      have k4 := f_x1 a4 e4
      refine z_getr (c := 0) (k := 2) (g := 2) (t := 20) z_cb0 (Nat.le_of_ble_eq_true rfl) (Nat.le_of_ble_eq_true rfl) rfl rfl zw_716 e4 k4 dX8_makeAck_80 (fun f5 => ?_)
      refine z_iload dX8_makeAck_83 3 rfl ?_
      refine z_bipush (v := 40) dX8_makeAck_85 (by decide) ?_
      refine z_pc (pc' := 87) rfl ?_
      refine z_aload_n dX8_makeAck_87 rfl 0 rfl ?_
      refine z_getr (c := 8) (k := 1) (g := 1025) (t := 24) z_cb8 (Nat.le_of_ble_eq_true rfl) (Nat.le_of_ble_eq_true rfl) rfl rfl zw_239 rfl ha dX8_makeAck_88 (fun f6 => ?_)
      refine z_iload dX8_makeAck_91 3 rfl ?_
      obtain ⟨a7, e7, hP⟩ := hP
      have k7 := f6 a7 e7
      obtain ⟨i8, hP⟩ := hP
      refine z_aald (t := 24) e7 k7 (Nat.le_of_ble_eq_true rfl) (Nat.le_of_ble_eq_true rfl) i8 dX8_makeAck_93 (fun f8 => ?_)
      obtain ⟨a9, e9, hP⟩ := hP
      have k9 := f8 a9 e9
      refine z_geti (c := 9) (k := 6) (g := 1158) z_cb9 (Nat.le_of_ble_eq_true rfl) (Nat.le_of_ble_eq_true rfl) rfl (Nat.le_of_ble_eq_true rfl) zw_204 e9 k9 dX8_makeAck_94 ?_
      refine z_iadd dX8_makeAck_97 ?_
      refine z_pc (pc' := 98) rfl ?_
      obtain ⟨a11, e11, hP⟩ := hP
      have k11 := f5 a11 e11
      obtain ⟨i12, hP⟩ := hP
      refine z_iast e11 k11 i12 dX8_makeAck_98 ?_
      refine z_nm (fun M_13 g_13 => ?_)
      replace hP := hP M_13 g_13
      have q_13 := z_k3 g_13
      have ha := z_kk q_13 ha
      have k4 := z_kk q_13 k4
      refine z_iload_n dX8_makeAck_99 rfl 2 rfl ?_
      refine z_aload_n dX8_makeAck_100 rfl 0 rfl ?_
      refine z_getr (c := 8) (k := 1) (g := 1025) (t := 24) z_cb8 (Nat.le_of_ble_eq_true rfl) (Nat.le_of_ble_eq_true rfl) rfl rfl zw_239 rfl ha dX8_makeAck_101 (fun f14 => ?_)
      refine z_iload dX8_makeAck_104 3 rfl ?_
      obtain ⟨a15, e15, hP⟩ := hP
      have k15 := f14 a15 e15
      obtain ⟨i16, hP⟩ := hP
      refine z_aald (t := 24) e15 k15 (Nat.le_of_ble_eq_true rfl) (Nat.le_of_ble_eq_true rfl) i16 dX8_makeAck_106 (fun f16 => ?_)
      refine z_pc (pc' := 107) rfl ?_
      obtain ⟨a17, e17, hP⟩ := hP
      have k17 := f16 a17 e17
      refine z_geti (c := 9) (k := 6) (g := 1158) z_cb9 (Nat.le_of_ble_eq_true rfl) (Nat.le_of_ble_eq_true rfl) rfl (Nat.le_of_ble_eq_true rfl) zw_204 e17 k17 dX8_makeAck_107 ?_
      refine z_iadd dX8_makeAck_110 ?_
      refine z_topi (fun x_19 y_19 => ?_)
      replace hP := hP x_19 y_19
      refine z_istore_n (lv' := [(3, z_I _), (0, z_O _), (1, z_O _), (4, z_I _)]) dX8_makeAck_111 rfl (Nat.le_of_ble_eq_true rfl) rfl ?_
      refine z_iincN (j := 3) (m := 1) (lv' := fun v => [(4, z_I v), (3, z_I _), (0, z_O _), (1, z_O _)]) dX8_makeAck_112 rfl (by decide) (Nat.le_of_ble_eq_true rfl) (fun _ => rfl) (fun x_20 y_20 => ?_)
      replace hP := hP x_20 y_20
      refine z_goto (tgt := 73) dX8_makeAck_115 (by decide) ?_
      refine z_sub (lv' := [(0, z_O _), (1, z_O _), (3, z_I _), (4, z_I _)]) [2, 3, 1, 0] rfl ?_
      exact ih ha (z_trn e4 k4) hP
set_option maxRecDepth 100000 in
set_option maxHeartbeats 4000000 in
theorem v_X8_makeAck_60 {G : z_G} {M0 : z_Mem} {a : Nat} {Post : Option Nat → z_Mem → Prop}   {x1 : Option Nat} {M : z_Mem} (ha : z_ki M a = 9) (f_x1 : z_tr M x1 1) (hP : P_X8_makeAck_60 a Post x1 M) : z_V G Y_X8_makeAck z_X0 M0 (z_QM G M0 (z_PO 1 Post)) M 60 [(0, z_O (some a)), (1, z_O x1)] [] := by
  unfold P_X8_makeAck_60 at hP
  refine z_aload_n dX8_makeAck_60 rfl 1 rfl ?_
  refine z_aload_n dX8_makeAck_61 rfl 0 rfl ?_
  refine z_geti (c := 8) (k := 11) (g := 1035) z_cb8 (Nat.le_of_ble_eq_true rfl) (Nat.le_of_ble_eq_true rfl) rfl (Nat.le_of_ble_eq_true rfl) zw_252 rfl ha dX8_makeAck_62 ?_
  obtain ⟨a22, e22, hP⟩ := hP
  have k22 := f_x1 a22 e22
  refine z_puti (c := 0) (k := 4) (g := 4) z_cb0 (Nat.le_of_ble_eq_true rfl) (Nat.le_of_ble_eq_true rfl) (Nat.le_of_ble_eq_true rfl) rfl rfl rfl zw_720 e22 k22 (Or.inl rfl) dX8_makeAck_65 ?_
  refine z_nm (fun M_23 g_23 => ?_)
  replace hP := hP M_23 g_23
  have q_23 := z_k1 g_23
  have ha := z_kk q_23 ha
  have k22 := z_kk q_23 k22
  refine z_iconst (v := 0) dX8_makeAck_68 (by decide) ?_
  refine z_istore_n (lv' := [(3, z_I _), (0, z_O _), (1, z_O _)]) dX8_makeAck_69 rfl (Nat.le_of_ble_eq_true rfl) rfl ?_
  refine z_pc (pc' := 70) rfl ?_
  refine z_iconst (v := 0) dX8_makeAck_70 (by decide) ?_
  refine z_istore (lv' := [(4, z_I _), (3, z_I _), (0, z_O _), (1, z_O _)]) dX8_makeAck_71 (Nat.le_of_ble_eq_true rfl) rfl ?_
  obtain ⟨n24, hP⟩ := hP
  refine z_sub (lv' := [(0, z_O _), (1, z_O _), (3, z_I _), (4, z_I _)]) [2, 3, 1, 0] rfl ?_
  exact v_X8_makeAck_73  n24 ha (z_trn e22 k22) hP
set_option maxRecDepth 100000 in
set_option maxHeartbeats 4000000 in
theorem v_X8_makeAck_20 {G : z_G} {M0 : z_Mem} {a : Nat} {Post : Option Nat → z_Mem → Prop}   : ∀ (n : Nat) {x1 : Option Nat} {x2 : Int32} {x3 : Int32} {M : z_Mem}, (z_ki M a = 9) → (z_tr M x1 1) → P_X8_makeAck_20 a Post n x1 x2 x3 M → z_V G Y_X8_makeAck z_X0 M0 (z_QM G M0 (z_PO 1 Post)) M 20 [(0, z_O (some a)), (1, z_O x1), (2, z_I x2), (3, z_I x3)] [] := by
  intro n
  induction n with
  | zero => intro x1 x2 x3 M ha f_x1 hP; exact False.elim hP
  | succ n ih =>
    intro x1 x2 x3 M ha f_x1 hP
    unfold P_X8_makeAck_20 at hP
    refine z_iload_n dX8_makeAck_20 rfl 3 rfl ?_
    refine z_iconst (v := 4) dX8_makeAck_21 (by decide) ?_
    refine z_icmp_ge (tgt := 60) dX8_makeAck_22 (by decide) (fun h25 => ?_) (fun h25 => ?_)
    · replace hP := hP.1 h25
      refine z_sub (lv' := [(0, z_O _), (1, z_O _)]) [0, 1] rfl ?_
      exact v_X8_makeAck_60  ha f_x1 hP
    · replace hP := hP.2 h25
      refine z_iload_n dX8_makeAck_25 rfl 2 rfl ?_
      refine z_if_lt (tgt := 60) dX8_makeAck_26 (by decide) (fun h26 => ?_) (fun h26 => ?_)
      · replace hP := hP.1 h26
        refine z_sub (lv' := [(0, z_O _), (1, z_O _)]) [0, 1] rfl ?_
        exact v_X8_makeAck_60  ha f_x1 hP
      · replace hP := hP.2 h26
        refine z_aload_n dX8_makeAck_29 rfl 0 rfl ?_
        refine z_iload_n dX8_makeAck_30 rfl 2 rfl ?_
        refine z_iconst (v := 0) dX8_makeAck_31 (by decide) ?_
        refine z_pc (pc' := 32) rfl ?_
        refine z_wts (fun hT27 _ => ?_)
        refine z_cVi (c := 8) (n := 2) (Y1 := Y_X8_nextTaken) (st := []) rfl ha z_cb8 (Nat.le_of_ble_eq_true rfl) rfl (s_X8_nextTaken ha (Or.inl rfl) hP) rfl ⟨z_dc_X8_nextTaken, ⟨(Nat.le_of_ble_eq_true rfl), (Nat.le_of_ble_eq_true rfl)⟩, (Nat.le_of_ble_eq_true rfl)⟩ rfl zw_737 zw_739 zp_3 zw_8 zw_740 dX8_makeAck_32 (fun x_27 M_27 hP _ x27 => ?_)
        have ha := x27.k (k := 8) hT27 ha
        have f_x1 := x27.t (k := 0) hT27 f_x1
        refine z_istore (lv' := [(4, z_I _), (0, z_O _), (1, z_O _), (2, z_I _), (3, z_I _)]) dX8_makeAck_35 (Nat.le_of_ble_eq_true rfl) rfl ?_
        refine z_aload_n dX8_makeAck_37 rfl 2 rfl ?_
        refine z_iload dX8_makeAck_38 0 rfl ?_
        refine z_iconst (v := 1) dX8_makeAck_40 (by decide) ?_
        refine z_iadd dX8_makeAck_41 ?_
        refine z_pc (pc' := 42) rfl ?_
        refine z_iload_n dX8_makeAck_42 rfl 3 rfl ?_
        obtain ⟨a29, e29, hP⟩ := hP
        have k29 := f_x1 a29 e29
        refine z_wts (fun hT28 _ => ?_)
        refine z_cVv (c := 0) (n := 2) (Y1 := Y_X0_addRange) (st := []) e29 k29 z_cb0 (Nat.le_of_ble_eq_true rfl) rfl (s_X0_addRange k29 hP) rfl ⟨z_dc_X0_addRange, ⟨(Nat.le_of_ble_eq_true rfl), (Nat.le_of_ble_eq_true rfl)⟩, (Nat.le_of_ble_eq_true rfl)⟩ rfl zw_741 zw_742 zw_743 zw_18 zw_744 dX8_makeAck_43 (fun M_28 hP _ x28 => ?_)
        have ha := x28.k (k := 8) hT28 ha
        have k29 := x28.k (k := 0) hT28 k29
        refine z_aload_n dX8_makeAck_46 rfl 1 rfl ?_
        refine z_iload dX8_makeAck_47 0 rfl ?_
        refine z_iconst (v := 1) dX8_makeAck_49 (by decide) ?_
        refine z_wts (fun hT30 _ => ?_)
        refine z_cVi (c := 8) (n := 2) (Y1 := Y_X8_nextTaken) (st := []) rfl ha z_cb8 (Nat.le_of_ble_eq_true rfl) rfl (s_X8_nextTaken ha (Or.inr rfl) hP) rfl ⟨z_dc_X8_nextTaken, ⟨(Nat.le_of_ble_eq_true rfl), (Nat.le_of_ble_eq_true rfl)⟩, (Nat.le_of_ble_eq_true rfl)⟩ rfl zw_737 zw_739 zp_3 zw_8 zw_740 dX8_makeAck_50 (fun x_30 M_30 hP _ x30 => ?_)
        have ha := x30.k (k := 8) hT30 ha
        have k29 := x30.k (k := 0) hT30 k29
        refine z_pc (pc' := 53) rfl ?_
        refine z_istore_n (lv' := [(2, z_I _), (4, z_I _), (0, z_O _), (1, z_O _), (3, z_I _)]) dX8_makeAck_53 rfl (Nat.le_of_ble_eq_true rfl) rfl ?_
        refine z_iincN (j := 4) (m := 1) (lv' := fun v => [(3, z_I v), (2, z_I _), (4, z_I _), (0, z_O _), (1, z_O _)]) dX8_makeAck_54 rfl (by decide) (Nat.le_of_ble_eq_true rfl) (fun _ => rfl) (fun x_31 y_31 => ?_)
        replace hP := hP x_31 y_31
        refine z_goto (tgt := 20) dX8_makeAck_57 (by decide) ?_
        refine z_sub (lv' := [(0, z_O _), (1, z_O _), (2, z_I _), (3, z_I _)]) [3, 4, 1, 0] rfl ?_
        exact ih ha (z_trn e29 k29) hP
set_option maxRecDepth 100000 in
set_option maxHeartbeats 4000000 in
theorem s_X8_makeAck {G : z_G} {M : z_Mem} {a : Nat} {Post : Option Nat → z_Mem → Prop} (ha : z_ki M a = 9) (hP : P_X8_makeAck a M Post) : z_Mt G Y_X8_makeAck M [z_O (some a)] (z_PO 1 Post) := by
  refine z_ofV (by decide) (Nat.le_of_ble_eq_true rfl) ?_
  unfold P_X8_makeAck at hP
  refine z_sub (lv' := [(0, z_O (some a))]) [0] rfl ?_
  obtain ⟨r32, hP⟩ := hP
  refine z_wts (fun hT32 _ => ?_)
  refine z_newo (c := 0) z_cb0 (Nat.le_of_ble_eq_true rfl) rfl z_df0 zw_705 zw_706 zw_18 r32 dX8_makeAck_0 (fun x32 k32 => ?_)
  refine z_nm (fun M_33 g_33 => ?_)
  replace hP := hP M_33 g_33
  have x32 := z_xe g_33 x32
  have k32 := z_xk g_33 k32
  have ha := x32.k (k := 8) hT32 ha
  refine z_dup dX8_makeAck_3 rfl ?_
  refine z_wts (fun hT34 _ => ?_)
  refine z_cINv (n := 0) (host := "Tidewater") (Y1 := Y_X0_init) (st := [z_O _]) rfl (s_X0_init k32 hP) rfl rfl rfl ⟨z_dc_X0_init, ⟨(Nat.le_of_ble_eq_true rfl), (Nat.le_of_ble_eq_true rfl)⟩, (Nat.le_of_ble_eq_true rfl)⟩ rfl (List.mem_of_getElem? (i := 5) rfl) zw_708 zw_18 zw_709 dX8_makeAck_4 (fun M_34 hP _ x34 => ?_)
  have ha := x34.k (k := 8) hT34 ha
  have k32 := x34.k (k := 0) hT34 k32
  refine z_astore_n (lv' := [(1, z_O _), (0, z_O _)]) dX8_makeAck_7 rfl (Nat.le_of_ble_eq_true rfl) rfl ?_
  refine z_aload_n dX8_makeAck_8 rfl 1 rfl ?_
  refine z_aload_n dX8_makeAck_9 rfl 1 rfl ?_
  refine z_pc (pc' := 10) rfl ?_
  refine z_geti (c := 8) (k := 10) (g := 1034) z_cb8 (Nat.le_of_ble_eq_true rfl) (Nat.le_of_ble_eq_true rfl) rfl (Nat.le_of_ble_eq_true rfl) zw_251 rfl ha dX8_makeAck_10 ?_
  refine z_iconst (v := 1) dX8_makeAck_13 (by decide) ?_
  refine z_wts (fun hT36 _ => ?_)
  refine z_cVi (c := 8) (n := 2) (Y1 := Y_X8_nextTaken) (st := []) rfl ha z_cb8 (Nat.le_of_ble_eq_true rfl) rfl (s_X8_nextTaken ha (Or.inr rfl) hP) rfl ⟨z_dc_X8_nextTaken, ⟨(Nat.le_of_ble_eq_true rfl), (Nat.le_of_ble_eq_true rfl)⟩, (Nat.le_of_ble_eq_true rfl)⟩ rfl zw_737 zw_739 zp_3 zw_8 zw_740 dX8_makeAck_14 (fun x_36 M_36 hP _ x36 => ?_)
  have ha := x36.k (k := 8) hT36 ha
  have k32 := x36.k (k := 0) hT36 k32
  refine z_istore_n (lv' := [(2, z_I _), (1, z_O _), (0, z_O _)]) dX8_makeAck_17 rfl (Nat.le_of_ble_eq_true rfl) rfl ?_
  refine z_iconst (v := 0) dX8_makeAck_18 (by decide) ?_
  refine z_istore_n (lv' := [(3, z_I _), (2, z_I _), (1, z_O _), (0, z_O _)]) dX8_makeAck_19 rfl (Nat.le_of_ble_eq_true rfl) rfl ?_
  obtain ⟨n37, hP⟩ := hP
  refine z_sub (lv' := [(0, z_O _), (1, z_O _), (2, z_I _), (3, z_I _)]) [3, 2, 1, 0] rfl ?_
  exact v_X8_makeAck_20  n37 ha (z_trn rfl k32) hP
set_option maxRecDepth 100000 in
def P_X8_acknowledge (a : Nat) (M : z_Mem) (Post : z_Mem → Prop) : Prop := (((z_fi M 1026 a) = 1 → (((z_fi M 1038 a) = (-1) → Post M) ∧ (¬ (z_fi M 1038 a) = (-1) → ∀ M_6 : z_Mem, M_6 = z_sfi M 1039 a ((z_fi M 1039 a) + 1) → (∀ M_7 : z_Mem, M_7 = z_sfi M_6 1036 a 0 → (∀ M_8 : z_Mem, M_8 = z_sfi M_7 1037 a (-1) → (z_room M_8 8 ∧ (∀ M_10 : z_Mem, M_10 = z_new M_8 5 8 → (P_X4_init (z_sz M_8) 4 M_10 fun M_11 => (P_X8_makeAck a M_11 fun x_12 M_12 => (∀ M_13 : z_Mem, M_13 = z_sfr M_12 516 (z_sz M_8) x_12 → (z_nn (z_fr M_13 1024 a) fun a17 => (P_X5_putToClient a17 (z_fi M_13 1038 a) (some (z_sz M_8)) M_13 fun M_16 => (Post M_16))))))))))))) ∧ (¬ (z_fi M 1026 a) = 1 → Post M))
set_option maxRecDepth 100000 in
set_option maxHeartbeats 4000000 in
theorem s_X8_acknowledge {G : z_G} {M : z_Mem} {a : Nat} {Post : z_Mem → Prop} (ha : z_ki M a = 9) (hP : P_X8_acknowledge a M Post) : z_Mt G Y_X8_acknowledge M [z_O (some a)] (z_PV Post) := by
  refine z_ofV (by decide) (Nat.le_of_ble_eq_true rfl) ?_
  unfold P_X8_acknowledge at hP
  refine z_sub (lv' := [(0, z_O (some a))]) [0] rfl ?_
  refine z_aload_n dX8_acknowledge_0 rfl 0 rfl ?_
  refine z_geti (c := 8) (k := 2) (g := 1026) z_cb8 (Nat.le_of_ble_eq_true rfl) (Nat.le_of_ble_eq_true rfl) rfl (Nat.le_of_ble_eq_true rfl) zw_240 rfl ha dX8_acknowledge_1 ?_
  refine z_iconst (v := 1) dX8_acknowledge_4 (by decide) ?_
  refine z_icmp_ne (tgt := 16) dX8_acknowledge_5 (by decide) (fun h2 => ?_) (fun h2 => ?_)
  · replace hP := hP.2 h2
    exact z_retv rfl dX8_acknowledge_16 hP
  · replace hP := hP.1 h2
    refine z_aload_n dX8_acknowledge_8 rfl 0 rfl ?_
    refine z_geti (c := 8) (k := 14) (g := 1038) z_cb8 (Nat.le_of_ble_eq_true rfl) (Nat.le_of_ble_eq_true rfl) rfl (Nat.le_of_ble_eq_true rfl) zw_255 rfl ha dX8_acknowledge_9 ?_
    refine z_iconst (v := (-1)) dX8_acknowledge_12 (by decide) ?_
    refine z_pc (pc' := 13) rfl ?_
    refine z_icmp_ne (tgt := 17) dX8_acknowledge_13 (by decide) (fun h4 => ?_) (fun h4 => ?_)
    · replace hP := hP.2 h4
      refine z_aload_n dX8_acknowledge_17 rfl 0 rfl ?_
      refine z_dup dX8_acknowledge_18 rfl ?_
      refine z_geti (c := 8) (k := 15) (g := 1039) z_cb8 (Nat.le_of_ble_eq_true rfl) (Nat.le_of_ble_eq_true rfl) rfl (Nat.le_of_ble_eq_true rfl) zw_256 rfl ha dX8_acknowledge_19 ?_
      refine z_iconst (v := 1) dX8_acknowledge_22 (by decide) ?_
      refine z_iadd dX8_acknowledge_23 ?_
      refine z_puti (c := 8) (k := 15) (g := 1039) z_cb8 (Nat.le_of_ble_eq_true rfl) (Nat.le_of_ble_eq_true rfl) (Nat.le_of_ble_eq_true rfl) rfl rfl rfl zw_256 rfl ha (Or.inl rfl) dX8_acknowledge_24 ?_
      refine z_nm (fun M_6 g_6 => ?_)
      replace hP := hP M_6 g_6
      have q_6 := z_k1 g_6
      have ha := z_kk q_6 ha
      refine z_pc (pc' := 27) rfl ?_
      refine z_aload_n dX8_acknowledge_27 rfl 0 rfl ?_
      refine z_iconst (v := 0) dX8_acknowledge_28 (by decide) ?_
      refine z_puti (c := 8) (k := 12) (g := 1036) z_cb8 (Nat.le_of_ble_eq_true rfl) (Nat.le_of_ble_eq_true rfl) (Nat.le_of_ble_eq_true rfl) rfl rfl rfl zw_253 rfl ha (Or.inl rfl) dX8_acknowledge_29 ?_
      refine z_nm (fun M_7 g_7 => ?_)
      replace hP := hP M_7 g_7
      have q_7 := z_k1 g_7
      have ha := z_kk q_7 ha
      refine z_aload_n dX8_acknowledge_32 rfl 0 rfl ?_
      refine z_iconst (v := (-1)) dX8_acknowledge_33 (by decide) ?_
      refine z_puti (c := 8) (k := 13) (g := 1037) z_cb8 (Nat.le_of_ble_eq_true rfl) (Nat.le_of_ble_eq_true rfl) (Nat.le_of_ble_eq_true rfl) rfl rfl rfl zw_254 rfl ha (Or.inl rfl) dX8_acknowledge_34 ?_
      refine z_nm (fun M_8 g_8 => ?_)
      replace hP := hP M_8 g_8
      have q_8 := z_k1 g_8
      have ha := z_kk q_8 ha
      refine z_pc (pc' := 37) rfl ?_
      obtain ⟨r9, hP⟩ := hP
      refine z_wts (fun hT9 _ => ?_)
      refine z_newo (c := 4) z_cb4 (Nat.le_of_ble_eq_true rfl) rfl z_df4 zw_699 zw_115 zw_6 r9 dX8_acknowledge_37 (fun x9 k9 => ?_)
      refine z_nm (fun M_10 g_10 => ?_)
      replace hP := hP M_10 g_10
      have x9 := z_xe g_10 x9
      have k9 := z_xk g_10 k9
      have ha := x9.k (k := 8) hT9 ha
      refine z_dup dX8_acknowledge_40 rfl ?_
      refine z_iconst (v := 4) dX8_acknowledge_41 (by decide) ?_
      refine z_wts (fun hT11 _ => ?_)
      refine z_cIv (n := 1) (Y1 := Y_X4_init) (st := [z_O _]) rfl (s_X4_init k9 hP) rfl rfl rfl ⟨z_dc_X4_init, ⟨(Nat.le_of_ble_eq_true rfl), (Nat.le_of_ble_eq_true rfl)⟩, (Nat.le_of_ble_eq_true rfl)⟩ rfl zw_700 zw_117 zw_6 zw_118 dX8_acknowledge_42 (fun M_11 hP _ x11 => ?_)
      have ha := x11.k (k := 8) hT11 ha
      have k9 := x11.k (k := 4) hT11 k9
      refine z_astore_n (lv' := [(1, z_O _), (0, z_O _)]) dX8_acknowledge_45 rfl (Nat.le_of_ble_eq_true rfl) rfl ?_
      refine z_aload_n dX8_acknowledge_46 rfl 0 rfl ?_
      refine z_pc (pc' := 47) rfl ?_
      refine z_aload_n dX8_acknowledge_47 rfl 1 rfl ?_
      refine z_wts (fun hT12 _ => ?_)
      refine z_cVo (c := 8) (n := 0) (Y1 := Y_X8_makeAck) (st := [z_O _]) rfl ha z_cb8 (Nat.le_of_ble_eq_true rfl) rfl (s_X8_makeAck ha hP) rfl ⟨z_dc_X8_makeAck, ⟨(Nat.le_of_ble_eq_true rfl), (Nat.le_of_ble_eq_true rfl)⟩, (Nat.le_of_ble_eq_true rfl)⟩ rfl zw_701 zw_703 zp_2 zw_8 zw_704 dX8_acknowledge_48 (fun x_12 M_12 f12 hP _ x12 => ?_)
      have ha := x12.k (k := 8) hT12 ha
      have k9 := x12.k (k := 4) hT12 k9
      refine z_putr (c := 4) (k := 4) (g := 516) (t := 1) z_cb4 (Nat.le_of_ble_eq_true rfl) (Nat.le_of_ble_eq_true rfl) rfl rfl rfl zw_132 rfl k9 f12 (Or.inl rfl) dX8_acknowledge_51 ?_
      refine z_nm (fun M_13 g_13 => ?_)
      replace hP := hP M_13 g_13
      have q_13 := z_k2 g_13
      have ha := z_kk q_13 ha
      have k9 := z_kk q_13 k9
      refine z_aload_n dX8_acknowledge_54 rfl 1 rfl ?_
      refine z_getr (c := 8) (k := 0) (g := 1024) (t := 6) z_cb8 (Nat.le_of_ble_eq_true rfl) (Nat.le_of_ble_eq_true rfl) rfl rfl zw_238 rfl ha dX8_acknowledge_55 (fun f14 => ?_)
      refine z_aload_n dX8_acknowledge_58 rfl 1 rfl ?_
      refine z_pc (pc' := 59) rfl ?_
      refine z_geti (c := 8) (k := 14) (g := 1038) z_cb8 (Nat.le_of_ble_eq_true rfl) (Nat.le_of_ble_eq_true rfl) rfl (Nat.le_of_ble_eq_true rfl) zw_255 rfl ha dX8_acknowledge_59 ?_
      refine z_aload_n dX8_acknowledge_62 rfl 0 rfl ?_
      obtain ⟨a17, e17, hP⟩ := hP
      have k17 := f14 a17 e17
      refine z_wts (fun hT16 _ => ?_)
      refine z_cVv (c := 5) (n := 2) (Y1 := Y_X5_putToClient) (st := []) e17 k17 z_cb5 (Nat.le_of_ble_eq_true rfl) rfl (s_X5_putToClient k17 (z_trn rfl k9) hP) rfl ⟨z_dc_X5_putToClient, ⟨(Nat.le_of_ble_eq_true rfl), (Nat.le_of_ble_eq_true rfl)⟩, (Nat.le_of_ble_eq_true rfl)⟩ rfl zw_745 zw_746 zw_747 zw_2 zw_748 dX8_acknowledge_63 (fun M_16 hP _ x16 => ?_)
      have ha := x16.k (k := 8) hT16 ha
      have k9 := x16.k (k := 4) hT16 k9
      exact z_retv rfl dX8_acknowledge_66 hP
    · replace hP := hP.1 h4
      exact z_retv rfl dX8_acknowledge_16 hP
set_option maxRecDepth 100000 in
def P_X8_readBytes (a : Nat) (p1 : Option Nat) (p2 : Int32) (M : z_Mem) (Post : Int32 → z_Mem → Prop) : Prop := z_nn p1 fun a1 => (∀ x_4 : Int32, x_4 = ((if 0 < ((if ((z_fi M 1157 a1) - (z_fi M 1158 a1)) < p2 then ((z_fi M 1157 a1) - (z_fi M 1158 a1)) else p2) : Int32) then ((if ((z_fi M 1157 a1) - (z_fi M 1158 a1)) < p2 then ((z_fi M 1157 a1) - (z_fi M 1158 a1)) else p2) : Int32) else 0) : Int32) → (∀ M_6 : z_Mem, M_6 = z_sfi M 1158 a1 ((z_fi M 1158 a1) + x_4) → (((x_4 ≤ 0 → Post x_4 M_6) ∧ (¬ x_4 ≤ 0 → P_X8_acknowledge a M_6 fun M_8 => (Post x_4 M_8))))))
set_option maxRecDepth 100000 in
set_option maxHeartbeats 4000000 in
theorem s_X8_readBytes {G : z_G} {M : z_Mem} {a : Nat} {p1 : Option Nat} {p2 : Int32} {Post : Int32 → z_Mem → Prop} (ha : z_ki M a = 9) (f_p1 : z_tr M p1 10) (hP : P_X8_readBytes a p1 p2 M Post) : z_Mt G Y_X8_readBytes M [z_O (some a), z_O p1, z_I p2] (z_PI Post) := by
  refine z_ofV (by decide) (Nat.le_of_ble_eq_true rfl) ?_
  unfold P_X8_readBytes at hP
  refine z_sub (lv' := [(0, z_O (some a)), (1, z_O p1), (2, z_I p2)]) [0, 1, 2] rfl ?_
  refine z_iconst (v := 0) dX8_readBytes_0 (by decide) ?_
  refine z_iload_n dX8_readBytes_1 rfl 2 rfl ?_
  refine z_aload_n dX8_readBytes_2 rfl 1 rfl ?_
  obtain ⟨a1, e1, hP⟩ := hP
  have k1 := f_p1 a1 e1
  refine z_geti (c := 9) (k := 5) (g := 1157) z_cb9 (Nat.le_of_ble_eq_true rfl) (Nat.le_of_ble_eq_true rfl) rfl (Nat.le_of_ble_eq_true rfl) zw_201 e1 k1 dX8_readBytes_3 ?_
  refine z_aload_n dX8_readBytes_6 rfl 1 rfl ?_
  refine z_geti (c := 9) (k := 6) (g := 1158) z_cb9 (Nat.le_of_ble_eq_true rfl) (Nat.le_of_ble_eq_true rfl) rfl (Nat.le_of_ble_eq_true rfl) zw_204 e1 k1 dX8_readBytes_7 ?_
  refine z_pc (pc' := 10) rfl ?_
  refine z_isub dX8_readBytes_10 ?_
  refine z_mmin zw_691 zw_692 zw_5 zw_693 dX8_readBytes_11 (Nat.le_of_ble_eq_true rfl) (Nat.le_of_ble_eq_true rfl) ?_
  refine z_mmax zw_694 zw_102 zw_5 zw_103 dX8_readBytes_14 (Nat.le_of_ble_eq_true rfl) (Nat.le_of_ble_eq_true rfl) ?_
  refine z_topi (fun x_4 y_4 => ?_)
  replace hP := hP x_4 y_4
  refine z_istore_n (lv' := [(3, z_I _), (0, z_O _), (1, z_O _), (2, z_I _)]) dX8_readBytes_17 rfl (Nat.le_of_ble_eq_true rfl) rfl ?_
  refine z_aload_n dX8_readBytes_18 rfl 2 rfl ?_
  refine z_dup dX8_readBytes_19 rfl ?_
  refine z_pc (pc' := 20) rfl ?_
  refine z_geti (c := 9) (k := 6) (g := 1158) z_cb9 (Nat.le_of_ble_eq_true rfl) (Nat.le_of_ble_eq_true rfl) rfl (Nat.le_of_ble_eq_true rfl) zw_204 e1 k1 dX8_readBytes_20 ?_
  refine z_iload_n dX8_readBytes_23 rfl 0 rfl ?_
  refine z_iadd dX8_readBytes_24 ?_
  refine z_puti (c := 9) (k := 6) (g := 1158) z_cb9 (Nat.le_of_ble_eq_true rfl) (Nat.le_of_ble_eq_true rfl) (Nat.le_of_ble_eq_true rfl) rfl rfl rfl zw_204 e1 k1 (Or.inl rfl) dX8_readBytes_25 ?_
  refine z_nm (fun M_6 g_6 => ?_)
  replace hP := hP M_6 g_6
  have q_6 := z_k1 g_6
  have ha := z_kk q_6 ha
  have k1 := z_kk q_6 k1
  refine z_iload_n dX8_readBytes_28 rfl 0 rfl ?_
  refine z_if_le (tgt := 36) dX8_readBytes_29 (by decide) (fun h7 => ?_) (fun h7 => ?_)
  · replace hP := hP.1 h7
    refine z_iload_n dX8_readBytes_36 rfl 0 rfl ?_
    refine z_pc (pc' := 37) rfl ?_
    exact z_reti rfl dX8_readBytes_37 hP
  · replace hP := hP.2 h7
    refine z_aload_n dX8_readBytes_32 rfl 1 rfl ?_
    refine z_pc (pc' := 33) rfl ?_
    refine z_wts (fun hT8 _ => ?_)
    refine z_cVv (c := 8) (n := 0) (Y1 := Y_X8_acknowledge) (st := []) rfl ha z_cb8 (Nat.le_of_ble_eq_true rfl) rfl (s_X8_acknowledge ha hP) rfl ⟨z_dc_X8_acknowledge, ⟨(Nat.le_of_ble_eq_true rfl), (Nat.le_of_ble_eq_true rfl)⟩, (Nat.le_of_ble_eq_true rfl)⟩ rfl zw_695 zw_697 zp_1 zw_8 zw_698 dX8_readBytes_33 (fun M_8 hP _ x8 => ?_)
    have ha := x8.k (k := 8) hT8 ha
    have k1 := x8.k (k := 9) hT8 k1
    refine z_iload_n dX8_readBytes_36 rfl 0 rfl ?_
    exact z_reti rfl dX8_readBytes_37 hP
set_option maxRecDepth 100000 in
def P_X11_clearRow_2 (Post : z_Mem → Prop)  : Nat → Option Nat → Int32 → z_Mem → Prop
  | 0, _, _, _ => False
  | n + 1, x0, x1, M => z_nn x0 fun a1 => ((((nI (z_ln M a1)) ≤ x1 → Post M) ∧ (¬ (nI (z_ln M a1)) ≤ x1 → vp_in x1 (z_ln M a1) ∧ (∀ M_4 : z_Mem, M_4 = z_sai M a1 ((x1 : Int32).toNatClampNeg) 0 → (∀ x_5 : Int32, x_5 = x1 + 1 → (P_X11_clearRow_2 Post n x0 x_5 M_4))))))
set_option maxRecDepth 100000 in
def P_X11_clearRow (p1 : Option Nat) (M : z_Mem) (Post : z_Mem → Prop) : Prop := (∃ n6 : Nat, P_X11_clearRow_2 Post n6 p1 0 M)
set_option maxRecDepth 100000 in
set_option maxHeartbeats 4000000 in
theorem v_X11_clearRow_2 {G : z_G} {M0 : z_Mem} {Post : z_Mem → Prop}   : ∀ (n : Nat) {x0 : Option Nat} {x1 : Int32} {M : z_Mem}, (z_tr M x0 21) → P_X11_clearRow_2 Post n x0 x1 M → z_V G Y_X11_clearRow z_X0 M0 (z_QM G M0 (z_PV Post)) M 2 [(0, z_O x0), (1, z_I x1)] [] := by
  intro n
  induction n with
  | zero => intro x0 x1 M f_x0 hP; exact False.elim hP
  | succ n ih =>
    intro x0 x1 M f_x0 hP
    unfold P_X11_clearRow_2 at hP
    refine z_iload_n dX11_clearRow_2 rfl 1 rfl ?_
    refine z_aload_n dX11_clearRow_3 rfl 0 rfl ?_
    obtain ⟨a1, e1, hP⟩ := hP
    have k1 := f_x0 a1 e1
    refine z_alen (t := 21) e1 k1 (Nat.le_of_ble_eq_true rfl) (Nat.le_of_ble_eq_true rfl) dX11_clearRow_4 ?_
    refine z_icmp_ge (tgt := 18) dX11_clearRow_5 (by decide) (fun h2 => ?_) (fun h2 => ?_)
    · replace hP := hP.1 h2
      exact z_retv rfl dX11_clearRow_18 hP
    · replace hP := hP.2 h2
      refine z_aload_n dX11_clearRow_8 rfl 0 rfl ?_
      refine z_iload_n dX11_clearRow_9 rfl 1 rfl ?_
      refine z_iconst (v := 0) dX11_clearRow_10 (by decide) ?_
      refine z_pc (pc' := 11) rfl ?_
      obtain ⟨i3, hP⟩ := hP
      refine z_zast e1 k1 i3 (Or.inl rfl) dX11_clearRow_11 ?_
      refine z_nm (fun M_4 g_4 => ?_)
      replace hP := hP M_4 g_4
      have q_4 := z_k3 g_4
      have k1 := z_kk q_4 k1
      refine z_iincN (j := 1) (m := 1) (lv' := fun v => [(1, z_I v), (0, z_O _)]) dX11_clearRow_12 rfl (by decide) (Nat.le_of_ble_eq_true rfl) (fun _ => rfl) (fun x_5 y_5 => ?_)
      replace hP := hP x_5 y_5
      refine z_goto (tgt := 2) dX11_clearRow_15 (by decide) ?_
      refine z_sub (lv' := [(0, z_O _), (1, z_I _)]) [1, 0] rfl ?_
      exact ih (z_trn e1 k1) hP
set_option maxRecDepth 100000 in
set_option maxHeartbeats 4000000 in
theorem s_X11_clearRow {G : z_G} {M : z_Mem} {p1 : Option Nat} {Post : z_Mem → Prop} (f_p1 : z_tr M p1 21) (hP : P_X11_clearRow p1 M Post) : z_Mt G Y_X11_clearRow M [z_O p1] (z_PV Post) := by
  refine z_ofV (by decide) (Nat.le_of_ble_eq_true rfl) ?_
  unfold P_X11_clearRow at hP
  refine z_sub (lv' := [(0, z_O p1)]) [0] rfl ?_
  refine z_iconst (v := 0) dX11_clearRow_0 (by decide) ?_
  refine z_istore_n (lv' := [(1, z_I _), (0, z_O _)]) dX11_clearRow_1 rfl (Nat.le_of_ble_eq_true rfl) rfl ?_
  obtain ⟨n6, hP⟩ := hP
  refine z_sub (lv' := [(0, z_O _), (1, z_I _)]) [1, 0] rfl ?_
  exact v_X11_clearRow_2  n6 f_p1 hP
set_option maxRecDepth 100000 in
def P_X8_forget (a : Nat) (M : z_Mem) (Post : z_Mem → Prop) : Prop := ∀ M_1 : z_Mem, M_1 = z_sfi M 1026 a 3 → (∀ M_2 : z_Mem, M_2 = z_sfi M_1 1028 a 0 → (P_X11_clearRow (z_fr M_2 1033 a) M_2 fun M_4 => (∀ M_5 : z_Mem, M_5 = z_sfi M_4 1034 a (-1) → (∀ M_6 : z_Mem, M_6 = z_sfi M_5 1035 a 0 → (∀ M_7 : z_Mem, M_7 = z_sfi M_6 1036 a 0 → (∀ M_8 : z_Mem, M_8 = z_sfi M_7 1037 a (-1) → (∀ M_9 : z_Mem, M_9 = z_sfi M_8 1038 a (-1) → (Post M_9))))))))
set_option maxRecDepth 100000 in
set_option maxHeartbeats 4000000 in
theorem s_X8_forget {G : z_G} {M : z_Mem} {a : Nat} {Post : z_Mem → Prop} (ha : z_ki M a = 9) (hP : P_X8_forget a M Post) : z_Mt G Y_X8_forget M [z_O (some a)] (z_PV Post) := by
  refine z_ofV (by decide) (Nat.le_of_ble_eq_true rfl) ?_
  unfold P_X8_forget at hP
  refine z_sub (lv' := [(0, z_O (some a))]) [0] rfl ?_
  refine z_aload_n dX8_forget_0 rfl 0 rfl ?_
  refine z_iconst (v := 3) dX8_forget_1 (by decide) ?_
  refine z_puti (c := 8) (k := 2) (g := 1026) z_cb8 (Nat.le_of_ble_eq_true rfl) (Nat.le_of_ble_eq_true rfl) (Nat.le_of_ble_eq_true rfl) rfl rfl rfl zw_240 rfl ha (Or.inl rfl) dX8_forget_2 ?_
  refine z_nm (fun M_1 g_1 => ?_)
  replace hP := hP M_1 g_1
  have q_1 := z_k1 g_1
  have ha := z_kk q_1 ha
  refine z_aload_n dX8_forget_5 rfl 0 rfl ?_
  refine z_iconst (v := 0) dX8_forget_6 (by decide) ?_
  refine z_putb (c := 8) (k := 4) (g := 1028) z_cb8 (Nat.le_of_ble_eq_true rfl) (Nat.le_of_ble_eq_true rfl) (Nat.le_of_ble_eq_true rfl) rfl rfl rfl zw_244 rfl ha (Or.inl rfl) (Or.inl rfl) dX8_forget_7 ?_
  refine z_nm (fun M_2 g_2 => ?_)
  replace hP := hP M_2 g_2
  have q_2 := z_k1 g_2
  have ha := z_kk q_2 ha
  refine z_pc (pc' := 10) rfl ?_
  refine z_aload_n dX8_forget_10 rfl 0 rfl ?_
  refine z_getr (c := 8) (k := 9) (g := 1033) (t := 21) z_cb8 (Nat.le_of_ble_eq_true rfl) (Nat.le_of_ble_eq_true rfl) rfl rfl zw_250 rfl ha dX8_forget_11 (fun f3 => ?_)
  refine z_wts (fun hT4 _ => ?_)
  refine z_cSNv (n := 1) (host := "Tidewater") (Y1 := Y_X11_clearRow) (st := []) (s_X11_clearRow f3 hP) rfl ⟨z_dc_X11_clearRow, ⟨(Nat.le_of_ble_eq_true rfl), (Nat.le_of_ble_eq_true rfl)⟩, (Nat.le_of_ble_eq_true rfl)⟩ rfl (List.mem_of_getElem? (i := 4) rfl) zw_518 zw_1 zw_519 dX8_forget_14 (fun M_4 hP _ x4 => ?_)
  have ha := x4.k (k := 8) hT4 ha
  refine z_aload_n dX8_forget_17 rfl 0 rfl ?_
  refine z_iconst (v := (-1)) dX8_forget_18 (by decide) ?_
  refine z_puti (c := 8) (k := 10) (g := 1034) z_cb8 (Nat.le_of_ble_eq_true rfl) (Nat.le_of_ble_eq_true rfl) (Nat.le_of_ble_eq_true rfl) rfl rfl rfl zw_251 rfl ha (Or.inl rfl) dX8_forget_19 ?_
  refine z_nm (fun M_5 g_5 => ?_)
  replace hP := hP M_5 g_5
  have q_5 := z_k1 g_5
  have ha := z_kk q_5 ha
  refine z_pc (pc' := 22) rfl ?_
  refine z_aload_n dX8_forget_22 rfl 0 rfl ?_
  refine z_iconst (v := 0) dX8_forget_23 (by decide) ?_
  refine z_puti (c := 8) (k := 11) (g := 1035) z_cb8 (Nat.le_of_ble_eq_true rfl) (Nat.le_of_ble_eq_true rfl) (Nat.le_of_ble_eq_true rfl) rfl rfl rfl zw_252 rfl ha (Or.inl rfl) dX8_forget_24 ?_
  refine z_nm (fun M_6 g_6 => ?_)
  replace hP := hP M_6 g_6
  have q_6 := z_k1 g_6
  have ha := z_kk q_6 ha
  refine z_aload_n dX8_forget_27 rfl 0 rfl ?_
  refine z_iconst (v := 0) dX8_forget_28 (by decide) ?_
  refine z_puti (c := 8) (k := 12) (g := 1036) z_cb8 (Nat.le_of_ble_eq_true rfl) (Nat.le_of_ble_eq_true rfl) (Nat.le_of_ble_eq_true rfl) rfl rfl rfl zw_253 rfl ha (Or.inl rfl) dX8_forget_29 ?_
  refine z_nm (fun M_7 g_7 => ?_)
  replace hP := hP M_7 g_7
  have q_7 := z_k1 g_7
  have ha := z_kk q_7 ha
  refine z_pc (pc' := 32) rfl ?_
  refine z_aload_n dX8_forget_32 rfl 0 rfl ?_
  refine z_iconst (v := (-1)) dX8_forget_33 (by decide) ?_
  refine z_puti (c := 8) (k := 13) (g := 1037) z_cb8 (Nat.le_of_ble_eq_true rfl) (Nat.le_of_ble_eq_true rfl) (Nat.le_of_ble_eq_true rfl) rfl rfl rfl zw_254 rfl ha (Or.inl rfl) dX8_forget_34 ?_
  refine z_nm (fun M_8 g_8 => ?_)
  replace hP := hP M_8 g_8
  have q_8 := z_k1 g_8
  have ha := z_kk q_8 ha
  refine z_aload_n dX8_forget_37 rfl 0 rfl ?_
  refine z_iconst (v := (-1)) dX8_forget_38 (by decide) ?_
  refine z_puti (c := 8) (k := 14) (g := 1038) z_cb8 (Nat.le_of_ble_eq_true rfl) (Nat.le_of_ble_eq_true rfl) (Nat.le_of_ble_eq_true rfl) rfl rfl rfl zw_255 rfl ha (Or.inl rfl) dX8_forget_39 ?_
  refine z_nm (fun M_9 g_9 => ?_)
  replace hP := hP M_9 g_9
  have q_9 := z_k1 g_9
  have ha := z_kk q_9 ha
  refine z_pc (pc' := 42) rfl ?_
  exact z_retv rfl dX8_forget_42 hP
set_option maxRecDepth 100000 in
def P_X8_useTicket (a : Nat) (p1 : Int32) (M : z_Mem) (Post : Int32 → z_Mem → Prop) : Prop := ((p1 < 0 → Post 0 M) ∧ (¬ p1 < 0 → ((10 ≤ p1 → Post 0 M) ∧ (¬ 10 ≤ p1 → z_nn (z_fr M 1029 a) fun a4 => (vp_in p1 (z_ln M a4) ∧ ((((z_ai M a4 ((p1 : Int32).toNatClampNeg)) = 0 → z_nn (z_fr M 1029 a) fun a8 => (vp_in p1 (z_ln M a8) ∧ (∀ M_10 : z_Mem, M_10 = z_sai M a8 ((p1 : Int32).toNatClampNeg) 1 → (Post 1 M_10)))) ∧ (¬ (z_ai M a4 ((p1 : Int32).toNatClampNeg)) = 0 → Post 0 M))))))))
set_option maxRecDepth 100000 in
set_option maxHeartbeats 4000000 in
theorem s_X8_useTicket {G : z_G} {M : z_Mem} {a : Nat} {p1 : Int32} {Post : Int32 → z_Mem → Prop} (ha : z_ki M a = 9) (hP : P_X8_useTicket a p1 M Post) : z_Mt G Y_X8_useTicket M [z_O (some a), z_I p1] (z_PB Post) := by
  refine z_ofV (by decide) (Nat.le_of_ble_eq_true rfl) ?_
  unfold P_X8_useTicket at hP
  refine z_sub (lv' := [(0, z_O (some a)), (1, z_I p1)]) [0, 1] rfl ?_
  refine z_iload_n dX8_useTicket_0 rfl 1 rfl ?_
  refine z_if_lt (tgt := 19) dX8_useTicket_1 (by decide) (fun h1 => ?_) (fun h1 => ?_)
  · replace hP := hP.1 h1
    refine z_iconst (v := 0) dX8_useTicket_19 (by decide) ?_
    exact z_retb rfl (Or.inl rfl) dX8_useTicket_20 hP
  · replace hP := hP.2 h1
    refine z_iload_n dX8_useTicket_4 rfl 1 rfl ?_
    refine z_bipush (v := 10) dX8_useTicket_5 (by decide) ?_
    refine z_icmp_ge (tgt := 19) dX8_useTicket_7 (by decide) (fun h2 => ?_) (fun h2 => ?_)
    · replace hP := hP.1 h2
      refine z_iconst (v := 0) dX8_useTicket_19 (by decide) ?_
      exact z_retb rfl (Or.inl rfl) dX8_useTicket_20 hP
    · replace hP := hP.2 h2
      refine z_aload_n dX8_useTicket_10 rfl 0 rfl ?_
      refine z_getr (c := 8) (k := 5) (g := 1029) (t := 21) z_cb8 (Nat.le_of_ble_eq_true rfl) (Nat.le_of_ble_eq_true rfl) rfl rfl zw_245 rfl ha dX8_useTicket_11 (fun f3 => ?_)
      refine z_iload_n dX8_useTicket_14 rfl 1 rfl ?_
      refine z_pc (pc' := 15) rfl ?_
      obtain ⟨a4, e4, hP⟩ := hP
      have k4 := f3 a4 e4
      obtain ⟨i5, hP⟩ := hP
      refine z_zald e4 k4 i5 dX8_useTicket_15 (fun b5 => ?_)
      refine z_if_eq (tgt := 21) dX8_useTicket_16 (by decide) (fun h6 => ?_) (fun h6 => ?_)
      · replace hP := hP.1 h6
        refine z_aload_n dX8_useTicket_21 rfl 0 rfl ?_
        refine z_getr (c := 8) (k := 5) (g := 1029) (t := 21) z_cb8 (Nat.le_of_ble_eq_true rfl) (Nat.le_of_ble_eq_true rfl) rfl rfl zw_245 rfl ha dX8_useTicket_22 (fun f7 => ?_)
        refine z_iload_n dX8_useTicket_25 rfl 1 rfl ?_
        refine z_iconst (v := 1) dX8_useTicket_26 (by decide) ?_
        obtain ⟨a8, e8, hP⟩ := hP
        have k8 := f7 a8 e8
        obtain ⟨i9, hP⟩ := hP
        refine z_zast e8 k8 i9 (Or.inr rfl) dX8_useTicket_27 ?_
        refine z_nm (fun M_10 g_10 => ?_)
        replace hP := hP M_10 g_10
        have q_10 := z_k3 g_10
        have ha := z_kk q_10 ha
        refine z_pc (pc' := 28) rfl ?_
        refine z_iconst (v := 1) dX8_useTicket_28 (by decide) ?_
        exact z_retb rfl (Or.inr rfl) dX8_useTicket_29 hP
      · replace hP := hP.2 h6
        refine z_iconst (v := 0) dX8_useTicket_19 (by decide) ?_
        exact z_retb rfl (Or.inl rfl) dX8_useTicket_20 hP
def P_X8_hearHello_59 (a : Nat) (Post : z_Mem → Prop)  (x1 : Option Nat) (M : z_Mem) : Prop := z_room M 8 ∧ (∀ M_2 : z_Mem, M_2 = z_new M 5 8 → (P_X4_init (z_sz M) 2 M_2 fun M_3 => (∀ M_5 : z_Mem, M_5 = z_sfi M_3 519 (z_sz M) (z_fi M_3 1028 a) → (z_nn x1 fun a7 => (z_nn (z_fr M_5 1024 a) fun a10 => (P_X5_putToClient a10 (z_fi M_5 513 a7) (some (z_sz M)) M_5 fun M_9 => (Post M_9)))))))
def P_X8_hearHello_42 (a : Nat) (Post : z_Mem → Prop)  (x1 : Option Nat) (M : z_Mem) : Prop := ∀ M_11 : z_Mem, M_11 = z_sfi M 1026 a 1 → (z_nn x1 fun a12 => (P_X8_useTicket a (z_fi M_11 517 a12) M_11 fun x_14 M_14 => (∀ M_15 : z_Mem, M_15 = z_sfi M_14 1028 a x_14 → (P_X8_hearHello_59 a Post x1 M_15))))
set_option maxRecDepth 100000 in
def P_X8_hearHello (a : Nat) (p1 : Option Nat) (M : z_Mem) (Post : z_Mem → Prop) : Prop := (((z_fi M 1026 a) = 1 → P_X8_hearHello_59 a Post p1 M) ∧ (¬ (z_fi M 1026 a) = 1 → (((z_fi M 1027 a) = 0 → P_X8_hearHello_42 a Post p1 M) ∧ (¬ (z_fi M 1027 a) = 0 → z_nn p1 fun a20 => ((((z_fi M 518 a20) = 0 → z_room M 8 ∧ (∀ M_26 : z_Mem, M_26 = z_new M 5 8 → (P_X4_init (z_sz M) 1 M_26 fun M_27 => (z_nn (z_fr M 1024 a) fun a29 => (P_X5_putToClient a29 (z_fi M 513 a20) (some (z_sz M)) M_27 fun M_28 => (Post M_28)))))) ∧ (¬ (z_fi M 518 a20) = 0 → P_X8_hearHello_42 a Post p1 M)))))))
set_option maxRecDepth 100000 in
set_option maxHeartbeats 4000000 in
theorem v_X8_hearHello_59 {G : z_G} {M0 : z_Mem} {a : Nat} {Post : z_Mem → Prop}   {x1 : Option Nat} {M : z_Mem} (ha : z_ki M a = 9) (f_x1 : z_tr M x1 5) (hP : P_X8_hearHello_59 a Post x1 M) : z_V G Y_X8_hearHello z_X0 M0 (z_QM G M0 (z_PV Post)) M 59 [(0, z_O (some a)), (1, z_O x1)] [] := by
  unfold P_X8_hearHello_59 at hP
  obtain ⟨r1, hP⟩ := hP
  refine z_wts (fun hT1 _ => ?_)
  refine z_newo (c := 4) z_cb4 (Nat.le_of_ble_eq_true rfl) rfl z_df4 zw_699 zw_115 zw_6 r1 dX8_hearHello_59 (fun x1 k1 => ?_)
  refine z_nm (fun M_2 g_2 => ?_)
  replace hP := hP M_2 g_2
  have x1 := z_xe g_2 x1
  have k1 := z_xk g_2 k1
  have ha := x1.k (k := 8) hT1 ha
  have f_x1 := x1.t (k := 4) hT1 f_x1
  refine z_dup dX8_hearHello_62 rfl ?_
  refine z_iconst (v := 2) dX8_hearHello_63 (by decide) ?_
  refine z_wts (fun hT3 _ => ?_)
  refine z_cIv (n := 1) (Y1 := Y_X4_init) (st := [z_O _]) rfl (s_X4_init k1 hP) rfl rfl rfl ⟨z_dc_X4_init, ⟨(Nat.le_of_ble_eq_true rfl), (Nat.le_of_ble_eq_true rfl)⟩, (Nat.le_of_ble_eq_true rfl)⟩ rfl zw_700 zw_117 zw_6 zw_118 dX8_hearHello_64 (fun M_3 hP _ x3 => ?_)
  have ha := x3.k (k := 8) hT3 ha
  have f_x1 := x3.t (k := 4) hT3 f_x1
  have k1 := x3.k (k := 4) hT3 k1
  refine z_astore_n (lv' := [(2, z_O _), (0, z_O _), (1, z_O _)]) dX8_hearHello_67 rfl (Nat.le_of_ble_eq_true rfl) rfl ?_
  refine z_aload_n dX8_hearHello_68 rfl 0 rfl ?_
  refine z_pc (pc' := 69) rfl ?_
  refine z_aload_n dX8_hearHello_69 rfl 1 rfl ?_
  refine z_getb (c := 8) (k := 4) (g := 1028) z_cb8 (Nat.le_of_ble_eq_true rfl) (Nat.le_of_ble_eq_true rfl) rfl rfl zw_244 rfl ha dX8_hearHello_70 (fun b4 => ?_)
  refine z_putb (c := 4) (k := 7) (g := 519) z_cb4 (Nat.le_of_ble_eq_true rfl) (Nat.le_of_ble_eq_true rfl) (Nat.le_of_ble_eq_true rfl) rfl rfl rfl zw_138 rfl k1 b4 (Or.inl rfl) dX8_hearHello_73 ?_
  refine z_nm (fun M_5 g_5 => ?_)
  replace hP := hP M_5 g_5
  have q_5 := z_k1 g_5
  have ha := z_kk q_5 ha
  have k1 := z_kk q_5 k1
  have f_x1 := z_trk q_5 f_x1
  refine z_aload_n dX8_hearHello_76 rfl 1 rfl ?_
  refine z_getr (c := 8) (k := 0) (g := 1024) (t := 6) z_cb8 (Nat.le_of_ble_eq_true rfl) (Nat.le_of_ble_eq_true rfl) rfl rfl zw_238 rfl ha dX8_hearHello_77 (fun f6 => ?_)
  refine z_aload_n dX8_hearHello_80 rfl 2 rfl ?_
  refine z_pc (pc' := 81) rfl ?_
  obtain ⟨a7, e7, hP⟩ := hP
  have k7 := f_x1 a7 e7
  refine z_geti (c := 4) (k := 1) (g := 513) z_cb4 (Nat.le_of_ble_eq_true rfl) (Nat.le_of_ble_eq_true rfl) rfl (Nat.le_of_ble_eq_true rfl) zw_125 e7 k7 dX8_hearHello_81 ?_
  refine z_aload_n dX8_hearHello_84 rfl 0 rfl ?_
  obtain ⟨a10, e10, hP⟩ := hP
  have k10 := f6 a10 e10
  refine z_wts (fun hT9 _ => ?_)
  refine z_cVv (c := 5) (n := 2) (Y1 := Y_X5_putToClient) (st := []) e10 k10 z_cb5 (Nat.le_of_ble_eq_true rfl) rfl (s_X5_putToClient k10 (z_trn rfl k1) hP) rfl ⟨z_dc_X5_putToClient, ⟨(Nat.le_of_ble_eq_true rfl), (Nat.le_of_ble_eq_true rfl)⟩, (Nat.le_of_ble_eq_true rfl)⟩ rfl zw_745 zw_746 zw_747 zw_2 zw_748 dX8_hearHello_85 (fun M_9 hP _ x9 => ?_)
  have ha := x9.k (k := 8) hT9 ha
  have k1 := x9.k (k := 4) hT9 k1
  have k7 := x9.k (k := 4) hT9 k7
  exact z_retv rfl dX8_hearHello_88 hP
set_option maxRecDepth 100000 in
set_option maxHeartbeats 4000000 in
theorem v_X8_hearHello_42 {G : z_G} {M0 : z_Mem} {a : Nat} {Post : z_Mem → Prop}   {x1 : Option Nat} {M : z_Mem} (ha : z_ki M a = 9) (f_x1 : z_tr M x1 5) (hP : P_X8_hearHello_42 a Post x1 M) : z_V G Y_X8_hearHello z_X0 M0 (z_QM G M0 (z_PV Post)) M 42 [(0, z_O (some a)), (1, z_O x1)] [] := by
  unfold P_X8_hearHello_42 at hP
  refine z_aload_n dX8_hearHello_42 rfl 0 rfl ?_
  refine z_iconst (v := 1) dX8_hearHello_43 (by decide) ?_
  refine z_puti (c := 8) (k := 2) (g := 1026) z_cb8 (Nat.le_of_ble_eq_true rfl) (Nat.le_of_ble_eq_true rfl) (Nat.le_of_ble_eq_true rfl) rfl rfl rfl zw_240 rfl ha (Or.inl rfl) dX8_hearHello_44 ?_
  refine z_nm (fun M_11 g_11 => ?_)
  replace hP := hP M_11 g_11
  have q_11 := z_k1 g_11
  have ha := z_kk q_11 ha
  have f_x1 := z_trk q_11 f_x1
  refine z_aload_n dX8_hearHello_47 rfl 0 rfl ?_
  refine z_aload_n dX8_hearHello_48 rfl 0 rfl ?_
  refine z_aload_n dX8_hearHello_49 rfl 1 rfl ?_
  refine z_pc (pc' := 50) rfl ?_
  obtain ⟨a12, e12, hP⟩ := hP
  have k12 := f_x1 a12 e12
  refine z_geti (c := 4) (k := 5) (g := 517) z_cb4 (Nat.le_of_ble_eq_true rfl) (Nat.le_of_ble_eq_true rfl) rfl (Nat.le_of_ble_eq_true rfl) zw_135 e12 k12 dX8_hearHello_50 ?_
  refine z_wts (fun hT14 _ => ?_)
  refine z_cVb (c := 8) (n := 1) (Y1 := Y_X8_useTicket) (st := [z_O _]) rfl ha z_cb8 (Nat.le_of_ble_eq_true rfl) rfl (s_X8_useTicket ha hP) rfl ⟨z_dc_X8_useTicket, ⟨(Nat.le_of_ble_eq_true rfl), (Nat.le_of_ble_eq_true rfl)⟩, (Nat.le_of_ble_eq_true rfl)⟩ rfl zw_893 zw_895 zp_7 zw_8 zw_896 dX8_hearHello_53 (fun x_14 M_14 b14 hP _ x14 => ?_)
  have ha := x14.k (k := 8) hT14 ha
  have k12 := x14.k (k := 4) hT14 k12
  refine z_putb (c := 8) (k := 4) (g := 1028) z_cb8 (Nat.le_of_ble_eq_true rfl) (Nat.le_of_ble_eq_true rfl) (Nat.le_of_ble_eq_true rfl) rfl rfl rfl zw_244 rfl ha b14 (Or.inl rfl) dX8_hearHello_56 ?_
  refine z_nm (fun M_15 g_15 => ?_)
  replace hP := hP M_15 g_15
  have q_15 := z_k1 g_15
  have ha := z_kk q_15 ha
  have k12 := z_kk q_15 k12
  refine z_sub (lv' := [(0, z_O _), (1, z_O _)]) [0, 1] rfl ?_
  exact v_X8_hearHello_59  ha (z_trn e12 k12) hP
set_option maxRecDepth 100000 in
set_option maxHeartbeats 4000000 in
theorem s_X8_hearHello {G : z_G} {M : z_Mem} {a : Nat} {p1 : Option Nat} {Post : z_Mem → Prop} (ha : z_ki M a = 9) (f_p1 : z_tr M p1 5) (hP : P_X8_hearHello a p1 M Post) : z_Mt G Y_X8_hearHello M [z_O (some a), z_O p1] (z_PV Post) := by
  refine z_ofV (by decide) (Nat.le_of_ble_eq_true rfl) ?_
  unfold P_X8_hearHello at hP
  refine z_sub (lv' := [(0, z_O (some a)), (1, z_O p1)]) [0, 1] rfl ?_
  refine z_aload_n dX8_hearHello_0 rfl 0 rfl ?_
  refine z_geti (c := 8) (k := 2) (g := 1026) z_cb8 (Nat.le_of_ble_eq_true rfl) (Nat.le_of_ble_eq_true rfl) rfl (Nat.le_of_ble_eq_true rfl) zw_240 rfl ha dX8_hearHello_1 ?_
  refine z_iconst (v := 1) dX8_hearHello_4 (by decide) ?_
  refine z_icmp_eq (tgt := 59) dX8_hearHello_5 (by decide) (fun h17 => ?_) (fun h17 => ?_)
  · replace hP := hP.1 h17
    refine z_sub (lv' := [(0, z_O _), (1, z_O _)]) [0, 1] rfl ?_
    exact v_X8_hearHello_59  ha f_p1 hP
  · replace hP := hP.2 h17
    refine z_aload_n dX8_hearHello_8 rfl 0 rfl ?_
    refine z_getb (c := 8) (k := 3) (g := 1027) z_cb8 (Nat.le_of_ble_eq_true rfl) (Nat.le_of_ble_eq_true rfl) rfl rfl zw_242 rfl ha dX8_hearHello_9 (fun b18 => ?_)
    refine z_if_eq (tgt := 42) dX8_hearHello_12 (by decide) (fun h19 => ?_) (fun h19 => ?_)
    · replace hP := hP.1 h19
      refine z_sub (lv' := [(0, z_O _), (1, z_O _)]) [0, 1] rfl ?_
      exact v_X8_hearHello_42  ha f_p1 hP
    · replace hP := hP.2 h19
      refine z_aload_n dX8_hearHello_15 rfl 1 rfl ?_
      refine z_pc (pc' := 16) rfl ?_
      obtain ⟨a20, e20, hP⟩ := hP
      have k20 := f_p1 a20 e20
      refine z_getb (c := 4) (k := 6) (g := 518) z_cb4 (Nat.le_of_ble_eq_true rfl) (Nat.le_of_ble_eq_true rfl) rfl rfl zw_137 e20 k20 dX8_hearHello_16 (fun b21 => ?_)
      refine z_if_ne (tgt := 42) dX8_hearHello_19 (by decide) (fun h22 => ?_) (fun h22 => ?_)
      · replace hP := hP.2 h22
        refine z_sub (lv' := [(0, z_O _), (1, z_O _)]) [0, 1] rfl ?_
        exact v_X8_hearHello_42  ha (z_trn e20 k20) hP
      · replace hP := hP.1 h22
        refine z_aload_n dX8_hearHello_22 rfl 0 rfl ?_
        refine z_getr (c := 8) (k := 0) (g := 1024) (t := 6) z_cb8 (Nat.le_of_ble_eq_true rfl) (Nat.le_of_ble_eq_true rfl) rfl rfl zw_238 rfl ha dX8_hearHello_23 (fun f23 => ?_)
        refine z_aload_n dX8_hearHello_26 rfl 1 rfl ?_
        refine z_geti (c := 4) (k := 1) (g := 513) z_cb4 (Nat.le_of_ble_eq_true rfl) (Nat.le_of_ble_eq_true rfl) rfl (Nat.le_of_ble_eq_true rfl) zw_125 e20 k20 dX8_hearHello_27 ?_
        obtain ⟨r25, hP⟩ := hP
        refine z_wts (fun hT25 _ => ?_)
        refine z_newo (c := 4) z_cb4 (Nat.le_of_ble_eq_true rfl) rfl z_df4 zw_699 zw_115 zw_6 r25 dX8_hearHello_30 (fun x25 k25 => ?_)
        refine z_nm (fun M_26 g_26 => ?_)
        replace hP := hP M_26 g_26
        have x25 := z_xe g_26 x25
        have k25 := z_xk g_26 k25
        have ha := x25.k (k := 8) hT25 ha
        have k20 := x25.k (k := 4) hT25 k20
        have f23 := x25.t (k := 5) hT25 f23
        refine z_pc (pc' := 33) rfl ?_
        refine z_dup dX8_hearHello_33 rfl ?_
        refine z_iconst (v := 1) dX8_hearHello_34 (by decide) ?_
        refine z_wts (fun hT27 _ => ?_)
        refine z_cIv (n := 1) (Y1 := Y_X4_init) (st := [z_O _, z_I _, z_O _]) rfl (s_X4_init k25 hP) rfl rfl rfl ⟨z_dc_X4_init, ⟨(Nat.le_of_ble_eq_true rfl), (Nat.le_of_ble_eq_true rfl)⟩, (Nat.le_of_ble_eq_true rfl)⟩ rfl zw_700 zw_117 zw_6 zw_118 dX8_hearHello_35 (fun M_27 hP _ x27 => ?_)
        have ha := x27.k (k := 8) hT27 ha
        have k20 := x27.k (k := 4) hT27 k20
        have k25 := x27.k (k := 4) hT27 k25
        have f23 := x27.t (k := 5) hT27 f23
        obtain ⟨a29, e29, hP⟩ := hP
        have k29 := f23 a29 e29
        refine z_wts (fun hT28 _ => ?_)
        refine z_cVv (c := 5) (n := 2) (Y1 := Y_X5_putToClient) (st := []) e29 k29 z_cb5 (Nat.le_of_ble_eq_true rfl) rfl (s_X5_putToClient k29 (z_trn rfl k25) hP) rfl ⟨z_dc_X5_putToClient, ⟨(Nat.le_of_ble_eq_true rfl), (Nat.le_of_ble_eq_true rfl)⟩, (Nat.le_of_ble_eq_true rfl)⟩ rfl zw_745 zw_746 zw_747 zw_2 zw_748 dX8_hearHello_38 (fun M_28 hP _ x28 => ?_)
        have ha := x28.k (k := 8) hT28 ha
        have k20 := x28.k (k := 4) hT28 k20
        exact z_retv rfl dX8_hearHello_41 hP
def P_X8_takesKey_35 (a : Nat) (Post : Int32 → z_Mem → Prop)  (x1 : Int32) (M : z_Mem) : Prop := ((x1 = (z_fi M 1030 a) → Post 1 M) ∧ (¬ x1 = (z_fi M 1030 a) → ((x1 = (z_fi M 1031 a) → z_nn (z_fr M 1024 a) fun a6 => ((((z_fi M 1032 a) ≤ (z_fi M 645 a6) → Post 0 M) ∧ (¬ (z_fi M 1032 a) ≤ (z_fi M 645 a6) → Post 1 M)))) ∧ (¬ x1 = (z_fi M 1031 a) → Post 0 M))))
set_option maxRecDepth 100000 in
def P_X8_takesKey (a : Nat) (p1 : Int32) (M : z_Mem) (Post : Int32 → z_Mem → Prop) : Prop := ((p1 ≤ (z_fi M 1030 a) → P_X8_takesKey_35 a Post p1 M) ∧ (¬ p1 ≤ (z_fi M 1030 a) → ∀ M_13 : z_Mem, M_13 = z_sfi M 1031 a (z_fi M 1030 a) → (z_nn (z_fr M_13 1024 a) fun a15 => (∀ M_17 : z_Mem, M_17 = z_sfi M_13 1032 a ((z_fi M_13 645 a15) + 8) → (∀ M_18 : z_Mem, M_18 = z_sfi M_17 1030 a p1 → (P_X8_takesKey_35 a Post p1 M_18))))))
set_option maxRecDepth 100000 in
set_option maxHeartbeats 4000000 in
theorem v_X8_takesKey_35 {G : z_G} {M0 : z_Mem} {a : Nat} {Post : Int32 → z_Mem → Prop}   {x1 : Int32} {M : z_Mem} (ha : z_ki M a = 9) (hP : P_X8_takesKey_35 a Post x1 M) : z_V G Y_X8_takesKey z_X0 M0 (z_QM G M0 (z_PB Post)) M 35 [(0, z_O (some a)), (1, z_I x1)] [] := by
  unfold P_X8_takesKey_35 at hP
  refine z_iload_n dX8_takesKey_35 rfl 1 rfl ?_
  refine z_aload_n dX8_takesKey_36 rfl 0 rfl ?_
  refine z_geti (c := 8) (k := 6) (g := 1030) z_cb8 (Nat.le_of_ble_eq_true rfl) (Nat.le_of_ble_eq_true rfl) rfl (Nat.le_of_ble_eq_true rfl) zw_246 rfl ha dX8_takesKey_37 ?_
  refine z_icmp_eq (tgt := 65) dX8_takesKey_40 (by decide) (fun h2 => ?_) (fun h2 => ?_)
  · replace hP := hP.1 h2
    refine z_iconst (v := 1) dX8_takesKey_65 (by decide) ?_
    refine z_goto (tgt := 70) dX8_takesKey_66 (by decide) ?_
    exact z_retb rfl (Or.inr rfl) dX8_takesKey_70 hP
  · replace hP := hP.2 h2
    refine z_iload_n dX8_takesKey_43 rfl 1 rfl ?_
    refine z_aload_n dX8_takesKey_44 rfl 0 rfl ?_
    refine z_geti (c := 8) (k := 7) (g := 1031) z_cb8 (Nat.le_of_ble_eq_true rfl) (Nat.le_of_ble_eq_true rfl) rfl (Nat.le_of_ble_eq_true rfl) zw_248 rfl ha dX8_takesKey_45 ?_
    refine z_pc (pc' := 48) rfl ?_
    refine z_icmp_ne (tgt := 69) dX8_takesKey_48 (by decide) (fun h4 => ?_) (fun h4 => ?_)
    · replace hP := hP.2 h4
      refine z_iconst (v := 0) dX8_takesKey_69 (by decide) ?_
      exact z_retb rfl (Or.inl rfl) dX8_takesKey_70 hP
    · replace hP := hP.1 h4
      refine z_aload_n dX8_takesKey_51 rfl 0 rfl ?_
      refine z_getr (c := 8) (k := 0) (g := 1024) (t := 6) z_cb8 (Nat.le_of_ble_eq_true rfl) (Nat.le_of_ble_eq_true rfl) rfl rfl zw_238 rfl ha dX8_takesKey_52 (fun f5 => ?_)
      obtain ⟨a6, e6, hP⟩ := hP
      have k6 := f5 a6 e6
      refine z_geti (c := 5) (k := 5) (g := 645) z_cb5 (Nat.le_of_ble_eq_true rfl) (Nat.le_of_ble_eq_true rfl) rfl (Nat.le_of_ble_eq_true rfl) zw_165 e6 k6 dX8_takesKey_55 ?_
      refine z_aload_n dX8_takesKey_58 rfl 0 rfl ?_
      refine z_geti (c := 8) (k := 8) (g := 1032) z_cb8 (Nat.le_of_ble_eq_true rfl) (Nat.le_of_ble_eq_true rfl) rfl (Nat.le_of_ble_eq_true rfl) zw_249 rfl ha dX8_takesKey_59 ?_
      refine z_icmp_ge (tgt := 69) dX8_takesKey_62 (by decide) (fun h9 => ?_) (fun h9 => ?_)
      · replace hP := hP.1 h9
        refine z_iconst (v := 0) dX8_takesKey_69 (by decide) ?_
        refine z_pc (pc' := 70) rfl ?_
        exact z_retb rfl (Or.inl rfl) dX8_takesKey_70 hP
      · replace hP := hP.2 h9
        refine z_iconst (v := 1) dX8_takesKey_65 (by decide) ?_
        refine z_pc (pc' := 66) rfl ?_
        refine z_goto (tgt := 70) dX8_takesKey_66 (by decide) ?_
        exact z_retb rfl (Or.inr rfl) dX8_takesKey_70 hP
set_option maxRecDepth 100000 in
set_option maxHeartbeats 4000000 in
theorem s_X8_takesKey {G : z_G} {M : z_Mem} {a : Nat} {p1 : Int32} {Post : Int32 → z_Mem → Prop} (ha : z_ki M a = 9) (hP : P_X8_takesKey a p1 M Post) : z_Mt G Y_X8_takesKey M [z_O (some a), z_I p1] (z_PB Post) := by
  refine z_ofV (by decide) (Nat.le_of_ble_eq_true rfl) ?_
  unfold P_X8_takesKey at hP
  refine z_sub (lv' := [(0, z_O (some a)), (1, z_I p1)]) [0, 1] rfl ?_
  refine z_iload_n dX8_takesKey_0 rfl 1 rfl ?_
  refine z_aload_n dX8_takesKey_1 rfl 0 rfl ?_
  refine z_geti (c := 8) (k := 6) (g := 1030) z_cb8 (Nat.le_of_ble_eq_true rfl) (Nat.le_of_ble_eq_true rfl) rfl (Nat.le_of_ble_eq_true rfl) zw_246 rfl ha dX8_takesKey_2 ?_
  refine z_icmp_le (tgt := 35) dX8_takesKey_5 (by decide) (fun h11 => ?_) (fun h11 => ?_)
  · replace hP := hP.1 h11
    refine z_sub (lv' := [(0, z_O _), (1, z_I _)]) [0, 1] rfl ?_
    exact v_X8_takesKey_35  ha hP
  · replace hP := hP.2 h11
    refine z_aload_n dX8_takesKey_8 rfl 0 rfl ?_
    refine z_aload_n dX8_takesKey_9 rfl 0 rfl ?_
    refine z_geti (c := 8) (k := 6) (g := 1030) z_cb8 (Nat.le_of_ble_eq_true rfl) (Nat.le_of_ble_eq_true rfl) rfl (Nat.le_of_ble_eq_true rfl) zw_246 rfl ha dX8_takesKey_10 ?_
    refine z_pc (pc' := 13) rfl ?_
    refine z_puti (c := 8) (k := 7) (g := 1031) z_cb8 (Nat.le_of_ble_eq_true rfl) (Nat.le_of_ble_eq_true rfl) (Nat.le_of_ble_eq_true rfl) rfl rfl rfl zw_248 rfl ha (Or.inl rfl) dX8_takesKey_13 ?_
    refine z_nm (fun M_13 g_13 => ?_)
    replace hP := hP M_13 g_13
    have q_13 := z_k1 g_13
    have ha := z_kk q_13 ha
    refine z_aload_n dX8_takesKey_16 rfl 0 rfl ?_
    refine z_aload_n dX8_takesKey_17 rfl 0 rfl ?_
    refine z_getr (c := 8) (k := 0) (g := 1024) (t := 6) z_cb8 (Nat.le_of_ble_eq_true rfl) (Nat.le_of_ble_eq_true rfl) rfl rfl zw_238 rfl ha dX8_takesKey_18 (fun f14 => ?_)
    obtain ⟨a15, e15, hP⟩ := hP
    have k15 := f14 a15 e15
    refine z_geti (c := 5) (k := 5) (g := 645) z_cb5 (Nat.le_of_ble_eq_true rfl) (Nat.le_of_ble_eq_true rfl) rfl (Nat.le_of_ble_eq_true rfl) zw_165 e15 k15 dX8_takesKey_21 ?_
    refine z_bipush (v := 8) dX8_takesKey_24 (by decide) ?_
    refine z_pc (pc' := 26) rfl ?_
    refine z_iadd dX8_takesKey_26 ?_
    refine z_puti (c := 8) (k := 8) (g := 1032) z_cb8 (Nat.le_of_ble_eq_true rfl) (Nat.le_of_ble_eq_true rfl) (Nat.le_of_ble_eq_true rfl) rfl rfl rfl zw_249 rfl ha (Or.inl rfl) dX8_takesKey_27 ?_
    refine z_nm (fun M_17 g_17 => ?_)
    replace hP := hP M_17 g_17
    have q_17 := z_k1 g_17
    have ha := z_kk q_17 ha
    refine z_aload_n dX8_takesKey_30 rfl 0 rfl ?_
    refine z_iload_n dX8_takesKey_31 rfl 1 rfl ?_
    refine z_puti (c := 8) (k := 6) (g := 1030) z_cb8 (Nat.le_of_ble_eq_true rfl) (Nat.le_of_ble_eq_true rfl) (Nat.le_of_ble_eq_true rfl) rfl rfl rfl zw_246 rfl ha (Or.inl rfl) dX8_takesKey_32 ?_
    refine z_nm (fun M_18 g_18 => ?_)
    replace hP := hP M_18 g_18
    have q_18 := z_k1 g_18
    have ha := z_kk q_18 ha
    refine z_sub (lv' := [(0, z_O _), (1, z_I _)]) [0, 1] rfl ?_
    exact v_X8_takesKey_35  ha hP
set_option maxRecDepth 100000 in
def P_X11_markRow_6 (Post : z_Mem → Prop)  : Nat → Option Nat → Int32 → Int32 → Int32 → z_Mem → Prop
  | 0, _, _, _, _, _ => False
  | n + 1, x0, x1, x2, x3, M => (((x1 + x2) ≤ x3 → Post M) ∧ (¬ (x1 + x2) ≤ x3 → z_nn x0 fun a2 => ((((nI (z_ln M a2)) ≤ x3 → Post M) ∧ (¬ (nI (z_ln M a2)) ≤ x3 → vp_in x3 (z_ln M a2) ∧ (∀ M_5 : z_Mem, M_5 = z_sai M a2 ((x3 : Int32).toNatClampNeg) 1 → (∀ x_6 : Int32, x_6 = x3 + 1 → (P_X11_markRow_6 Post n x0 x1 x2 x_6 M_5))))))))
set_option maxRecDepth 100000 in
def P_X11_markRow (p1 : Option Nat) (p2 : Int32) (p3 : Int32) (M : z_Mem) (Post : z_Mem → Prop) : Prop := ∀ x_7 : Int32, x_7 = ((if 0 < p2 then p2 else 0) : Int32) → ((∃ n8 : Nat, P_X11_markRow_6 Post n8 p1 p2 p3 x_7 M))
set_option maxRecDepth 100000 in
set_option maxHeartbeats 4000000 in
theorem v_X11_markRow_6 {G : z_G} {M0 : z_Mem} {Post : z_Mem → Prop}   : ∀ (n : Nat) {x0 : Option Nat} {x1 : Int32} {x2 : Int32} {x3 : Int32} {M : z_Mem}, (z_tr M x0 21) → P_X11_markRow_6 Post n x0 x1 x2 x3 M → z_V G Y_X11_markRow z_X0 M0 (z_QM G M0 (z_PV Post)) M 6 [(0, z_O x0), (1, z_I x1), (2, z_I x2), (3, z_I x3)] [] := by
  intro n
  induction n with
  | zero => intro x0 x1 x2 x3 M f_x0 hP; exact False.elim hP
  | succ n ih =>
    intro x0 x1 x2 x3 M f_x0 hP
    unfold P_X11_markRow_6 at hP
    refine z_iload_n dX11_markRow_6 rfl 3 rfl ?_
    refine z_iload_n dX11_markRow_7 rfl 1 rfl ?_
    refine z_iload_n dX11_markRow_8 rfl 2 rfl ?_
    refine z_iadd dX11_markRow_9 ?_
    refine z_icmp_ge (tgt := 29) dX11_markRow_10 (by decide) (fun h1 => ?_) (fun h1 => ?_)
    · replace hP := hP.1 h1
      exact z_retv rfl dX11_markRow_29 hP
    · replace hP := hP.2 h1
      refine z_iload_n dX11_markRow_13 rfl 3 rfl ?_
      refine z_aload_n dX11_markRow_14 rfl 0 rfl ?_
      refine z_pc (pc' := 15) rfl ?_
      obtain ⟨a2, e2, hP⟩ := hP
      have k2 := f_x0 a2 e2
      refine z_alen (t := 21) e2 k2 (Nat.le_of_ble_eq_true rfl) (Nat.le_of_ble_eq_true rfl) dX11_markRow_15 ?_
      refine z_icmp_ge (tgt := 29) dX11_markRow_16 (by decide) (fun h3 => ?_) (fun h3 => ?_)
      · replace hP := hP.1 h3
        exact z_retv rfl dX11_markRow_29 hP
      · replace hP := hP.2 h3
        refine z_aload_n dX11_markRow_19 rfl 0 rfl ?_
        refine z_iload_n dX11_markRow_20 rfl 3 rfl ?_
        refine z_iconst (v := 1) dX11_markRow_21 (by decide) ?_
        obtain ⟨i4, hP⟩ := hP
        refine z_zast e2 k2 i4 (Or.inr rfl) dX11_markRow_22 ?_
        refine z_nm (fun M_5 g_5 => ?_)
        replace hP := hP M_5 g_5
        have q_5 := z_k3 g_5
        have k2 := z_kk q_5 k2
        refine z_iincN (j := 3) (m := 1) (lv' := fun v => [(3, z_I v), (0, z_O _), (1, z_I _), (2, z_I _)]) dX11_markRow_23 rfl (by decide) (Nat.le_of_ble_eq_true rfl) (fun _ => rfl) (fun x_6 y_6 => ?_)
        replace hP := hP x_6 y_6
        refine z_pc (pc' := 26) rfl ?_
        refine z_goto (tgt := 6) dX11_markRow_26 (by decide) ?_
        refine z_sub (lv' := [(0, z_O _), (1, z_I _), (2, z_I _), (3, z_I _)]) [1, 2, 3, 0] rfl ?_
        exact ih (z_trn e2 k2) hP
set_option maxRecDepth 100000 in
set_option maxHeartbeats 4000000 in
theorem s_X11_markRow {G : z_G} {M : z_Mem} {p1 : Option Nat} {p2 : Int32} {p3 : Int32} {Post : z_Mem → Prop} (f_p1 : z_tr M p1 21) (hP : P_X11_markRow p1 p2 p3 M Post) : z_Mt G Y_X11_markRow M [z_O p1, z_I p2, z_I p3] (z_PV Post) := by
  refine z_ofV (by decide) (Nat.le_of_ble_eq_true rfl) ?_
  unfold P_X11_markRow at hP
  refine z_sub (lv' := [(0, z_O p1), (1, z_I p2), (2, z_I p3)]) [0, 1, 2] rfl ?_
  refine z_iconst (v := 0) dX11_markRow_0 (by decide) ?_
  refine z_iload_n dX11_markRow_1 rfl 1 rfl ?_
  refine z_mmax zw_916 zw_102 zw_5 zw_103 dX11_markRow_2 (Nat.le_of_ble_eq_true rfl) (Nat.le_of_ble_eq_true rfl) ?_
  refine z_topi (fun x_7 y_7 => ?_)
  replace hP := hP x_7 y_7
  refine z_istore_n (lv' := [(3, z_I _), (0, z_O _), (1, z_I _), (2, z_I _)]) dX11_markRow_5 rfl (Nat.le_of_ble_eq_true rfl) rfl ?_
  obtain ⟨n8, hP⟩ := hP
  refine z_sub (lv' := [(0, z_O _), (1, z_I _), (2, z_I _), (3, z_I _)]) [1, 2, 3, 0] rfl ?_
  exact v_X11_markRow_6  n8 f_p1 hP
set_option maxRecDepth 100000 in
def P_X11_lengthOfPrefix_6 (Post : Int32 → z_Mem → Prop)  : Nat → Option Nat → Int32 → z_Mem → Prop
  | 0, _, _, _ => False
  | n + 1, x0, x2, M => z_nn x0 fun a1 => ((((nI (z_ln M a1)) ≤ x2 → Post x2 M) ∧ (¬ (nI (z_ln M a1)) ≤ x2 → vp_in x2 (z_ln M a1) ∧ ((((z_ai M a1 ((x2 : Int32).toNatClampNeg)) = 0 → Post x2 M) ∧ (¬ (z_ai M a1 ((x2 : Int32).toNatClampNeg)) = 0 → ∀ x_5 : Int32, x_5 = x2 + 1 → (P_X11_lengthOfPrefix_6 Post n x0 x_5 M)))))))
set_option maxRecDepth 100000 in
def P_X11_lengthOfPrefix (p1 : Option Nat) (p2 : Int32) (M : z_Mem) (Post : Int32 → z_Mem → Prop) : Prop := ∀ x_6 : Int32, x_6 = ((if 0 < p2 then p2 else 0) : Int32) → ((∃ n7 : Nat, P_X11_lengthOfPrefix_6 Post n7 p1 x_6 M))
set_option maxRecDepth 100000 in
set_option maxHeartbeats 4000000 in
theorem v_X11_lengthOfPrefix_6 {G : z_G} {M0 : z_Mem} {Post : Int32 → z_Mem → Prop}   : ∀ (n : Nat) {x0 : Option Nat} {x2 : Int32} {M : z_Mem}, (z_tr M x0 21) → P_X11_lengthOfPrefix_6 Post n x0 x2 M → z_V G Y_X11_lengthOfPrefix z_X0 M0 (z_QM G M0 (z_PI Post)) M 6 [(0, z_O x0), (2, z_I x2)] [] := by
  intro n
  induction n with
  | zero => intro x0 x2 M f_x0 hP; exact False.elim hP
  | succ n ih =>
    intro x0 x2 M f_x0 hP
    unfold P_X11_lengthOfPrefix_6 at hP
    refine z_iload_n dX11_lengthOfPrefix_6 rfl 1 rfl ?_
    refine z_aload_n dX11_lengthOfPrefix_7 rfl 0 rfl ?_
    obtain ⟨a1, e1, hP⟩ := hP
    have k1 := f_x0 a1 e1
    refine z_alen (t := 21) e1 k1 (Nat.le_of_ble_eq_true rfl) (Nat.le_of_ble_eq_true rfl) dX11_lengthOfPrefix_8 ?_
    refine z_icmp_ge (tgt := 24) dX11_lengthOfPrefix_9 (by decide) (fun h2 => ?_) (fun h2 => ?_)
    · replace hP := hP.1 h2
      refine z_iload_n dX11_lengthOfPrefix_24 rfl 1 rfl ?_
      exact z_reti rfl dX11_lengthOfPrefix_25 hP
    · replace hP := hP.2 h2
      refine z_aload_n dX11_lengthOfPrefix_12 rfl 0 rfl ?_
      refine z_iload_n dX11_lengthOfPrefix_13 rfl 1 rfl ?_
      obtain ⟨i3, hP⟩ := hP
      refine z_zald e1 k1 i3 dX11_lengthOfPrefix_14 (fun b3 => ?_)
      refine z_pc (pc' := 15) rfl ?_
      refine z_if_eq (tgt := 24) dX11_lengthOfPrefix_15 (by decide) (fun h4 => ?_) (fun h4 => ?_)
      · replace hP := hP.1 h4
        refine z_iload_n dX11_lengthOfPrefix_24 rfl 1 rfl ?_
        exact z_reti rfl dX11_lengthOfPrefix_25 hP
      · replace hP := hP.2 h4
        refine z_iincN (j := 1) (m := 1) (lv' := fun v => [(2, z_I v), (0, z_O _)]) dX11_lengthOfPrefix_18 rfl (by decide) (Nat.le_of_ble_eq_true rfl) (fun _ => rfl) (fun x_5 y_5 => ?_)
        replace hP := hP x_5 y_5
        refine z_goto (tgt := 6) dX11_lengthOfPrefix_21 (by decide) ?_
        refine z_sub (lv' := [(0, z_O _), (2, z_I _)]) [1, 0] rfl ?_
        exact ih (z_trn e1 k1) hP
set_option maxRecDepth 100000 in
set_option maxHeartbeats 4000000 in
theorem s_X11_lengthOfPrefix {G : z_G} {M : z_Mem} {p1 : Option Nat} {p2 : Int32} {Post : Int32 → z_Mem → Prop} (f_p1 : z_tr M p1 21) (hP : P_X11_lengthOfPrefix p1 p2 M Post) : z_Mt G Y_X11_lengthOfPrefix M [z_O p1, z_I p2] (z_PI Post) := by
  refine z_ofV (by decide) (Nat.le_of_ble_eq_true rfl) ?_
  unfold P_X11_lengthOfPrefix at hP
  refine z_sub (lv' := [(0, z_O p1), (1, z_I p2)]) [0, 1] rfl ?_
  refine z_iconst (v := 0) dX11_lengthOfPrefix_0 (by decide) ?_
  refine z_iload_n dX11_lengthOfPrefix_1 rfl 1 rfl ?_
  refine z_mmax zw_916 zw_102 zw_5 zw_103 dX11_lengthOfPrefix_2 (Nat.le_of_ble_eq_true rfl) (Nat.le_of_ble_eq_true rfl) ?_
  refine z_topi (fun x_6 y_6 => ?_)
  replace hP := hP x_6 y_6
  refine z_istore_n (lv' := [(2, z_I _), (0, z_O _), (1, z_I _)]) dX11_lengthOfPrefix_5 rfl (Nat.le_of_ble_eq_true rfl) rfl ?_
  obtain ⟨n7, hP⟩ := hP
  refine z_sub (lv' := [(0, z_O _), (2, z_I _)]) [1, 0] rfl ?_
  exact v_X11_lengthOfPrefix_6  n7 f_p1 hP
set_option maxRecDepth 100000 in
def P_X9_arrive (a : Nat) (p1 : Int32) (p2 : Int32) (M : z_Mem) (Post : z_Mem → Prop) : Prop := P_X11_markRow (z_fr M 1161 a) p1 p2 M fun M_2 => (P_X11_lengthOfPrefix (z_fr M_2 1161 a) (z_fi M_2 1157 a) M_2 fun x_5 M_5 => (∀ M_6 : z_Mem, M_6 = z_sfi M_5 1157 a x_5 → (Post M_6)))
set_option maxRecDepth 100000 in
set_option maxHeartbeats 4000000 in
theorem s_X9_arrive {G : z_G} {M : z_Mem} {a : Nat} {p1 : Int32} {p2 : Int32} {Post : z_Mem → Prop} (ha : z_ki M a = 10) (hP : P_X9_arrive a p1 p2 M Post) : z_Mt G Y_X9_arrive M [z_O (some a), z_I p1, z_I p2] (z_PV Post) := by
  refine z_ofV (by decide) (Nat.le_of_ble_eq_true rfl) ?_
  unfold P_X9_arrive at hP
  refine z_sub (lv' := [(0, z_O (some a)), (1, z_I p1), (2, z_I p2)]) [0, 1, 2] rfl ?_
  refine z_aload_n dX9_arrive_0 rfl 0 rfl ?_
  refine z_getr (c := 9) (k := 9) (g := 1161) (t := 21) z_cb9 (Nat.le_of_ble_eq_true rfl) (Nat.le_of_ble_eq_true rfl) rfl rfl zw_208 rfl ha dX9_arrive_1 (fun f1 => ?_)
  refine z_iload_n dX9_arrive_4 rfl 1 rfl ?_
  refine z_iload_n dX9_arrive_5 rfl 2 rfl ?_
  refine z_wts (fun hT2 _ => ?_)
  refine z_cSNv (n := 3) (host := "Tidewater") (Y1 := Y_X11_markRow) (st := []) (s_X11_markRow f1 hP) rfl ⟨z_dc_X11_markRow, ⟨(Nat.le_of_ble_eq_true rfl), (Nat.le_of_ble_eq_true rfl)⟩, (Nat.le_of_ble_eq_true rfl)⟩ rfl (List.mem_of_getElem? (i := 6) rfl) zw_914 zw_1 zw_915 dX9_arrive_6 (fun M_2 hP _ x2 => ?_)
  have ha := x2.k (k := 9) hT2 ha
  refine z_aload_n dX9_arrive_9 rfl 0 rfl ?_
  refine z_pc (pc' := 10) rfl ?_
  refine z_aload_n dX9_arrive_10 rfl 0 rfl ?_
  refine z_getr (c := 9) (k := 9) (g := 1161) (t := 21) z_cb9 (Nat.le_of_ble_eq_true rfl) (Nat.le_of_ble_eq_true rfl) rfl rfl zw_208 rfl ha dX9_arrive_11 (fun f3 => ?_)
  refine z_aload_n dX9_arrive_14 rfl 0 rfl ?_
  refine z_geti (c := 9) (k := 5) (g := 1157) z_cb9 (Nat.le_of_ble_eq_true rfl) (Nat.le_of_ble_eq_true rfl) rfl (Nat.le_of_ble_eq_true rfl) zw_202 rfl ha dX9_arrive_15 ?_
  refine z_wts (fun hT5 _ => ?_)
  refine z_cSNi (n := 2) (host := "Tidewater") (Y1 := Y_X11_lengthOfPrefix) (st := [z_O _]) (s_X11_lengthOfPrefix f3 hP) rfl ⟨z_dc_X11_lengthOfPrefix, ⟨(Nat.le_of_ble_eq_true rfl), (Nat.le_of_ble_eq_true rfl)⟩, (Nat.le_of_ble_eq_true rfl)⟩ rfl (List.mem_of_getElem? (i := 7) rfl) zw_918 zw_1 zw_919 dX9_arrive_18 (fun x_5 M_5 hP _ x5 => ?_)
  have ha := x5.k (k := 9) hT5 ha
  refine z_puti (c := 9) (k := 5) (g := 1157) z_cb9 (Nat.le_of_ble_eq_true rfl) (Nat.le_of_ble_eq_true rfl) (Nat.le_of_ble_eq_true rfl) rfl rfl rfl zw_202 rfl ha (Or.inl rfl) dX9_arrive_21 ?_
  refine z_nm (fun M_6 g_6 => ?_)
  replace hP := hP M_6 g_6
  have q_6 := z_k1 g_6
  have ha := z_kk q_6 ha
  refine z_pc (pc' := 24) rfl ?_
  exact z_retv rfl dX9_arrive_24 hP
def P_X8_hearData_169 (a : Nat) (Post : z_Mem → Prop)  (x4 : Int32) (M : z_Mem) : Prop := ((x4 = 0 → z_nn (z_fr M 1024 a) fun a3 => (∀ M_5 : z_Mem, M_5 = z_sfi M 1037 a ((z_fi M 645 a3) + 3) → (Post M_5))) ∧ (¬ x4 = 0 → P_X8_acknowledge a M fun M_6 => (Post M_6)))
def P_X8_hearData_121 (a : Nat) (Post : z_Mem → Prop)  (x1 : Option Nat) (x3 : Int32) (t0 : Int32) (M : z_Mem) : Prop := z_nn (z_fr M 1033 a) fun a8 => (vp_in x3 (z_ln M a8) ∧ (∀ M_10 : z_Mem, M_10 = z_sai M a8 ((x3 : Int32).toNatClampNeg) 1 → (∀ M_12 : z_Mem, M_12 = z_sfi M_10 1034 a ((if (z_fi M_10 1034 a) < x3 then x3 else (z_fi M_10 1034 a)) : Int32) → (∀ M_14 : z_Mem, M_14 = z_sfi M_12 1036 a ((z_fi M_12 1036 a) + 1) → (z_nn x1 fun a15 => ((((z_fi M_14 777 a15) = 0 → P_X8_hearData_169 a Post t0 M_14) ∧ (¬ (z_fi M_14 777 a15) = 0 → ∀ M_19 : z_Mem, M_19 = z_sfi M_14 1035 a ((z_fi M_14 1035 a) + 1) → (P_X8_hearData_169 a Post t0 M_19)))))))))
def P_X8_hearData_116 (a : Nat) (Post : z_Mem → Prop)  (x1 : Option Nat) (x3 : Int32) (M : z_Mem) : Prop := P_X8_hearData_121 a Post x1 x3 1 M
def P_X8_hearData_92 (a : Nat) (Post : z_Mem → Prop)  (x1 : Option Nat) (x3 : Int32) (M : z_Mem) : Prop := z_nn x1 fun a20 => ((((z_fi M 775 a20) = 0 → ((x3 = ((z_fi M 1034 a) + 1) → (((z_fi M 1036 a) ≤ 0 → P_X8_hearData_121 a Post x1 x3 0 M) ∧ (¬ (z_fi M 1036 a) ≤ 0 → P_X8_hearData_116 a Post x1 x3 M))) ∧ (¬ x3 = ((z_fi M 1034 a) + 1) → P_X8_hearData_116 a Post x1 x3 M))) ∧ (¬ (z_fi M 775 a20) = 0 → P_X8_hearData_116 a Post x1 x3 M)))
def P_X8_hearData_19 (a : Nat) (Post : z_Mem → Prop)  (x1 : Option Nat) (t0 : Int32) (M : z_Mem) : Prop := z_nn x1 fun a27 => (∀ x_29 : Int32, x_29 = (z_fi M 768 a27) → (((t0 = 0 → P_X8_takesKey a (z_fi M 774 a27) M fun x_32 M_32 => (((x_32 = 0 → Post M_32) ∧ (¬ x_32 = 0 → ((x_29 < 0 → Post M_32) ∧ (¬ x_29 < 0 → ((x_29 < 400 → ∀ M_36 : z_Mem, M_36 = z_sfi M_32 779 a27 1 → ((((z_fi M_36 771 a27) < 0 → P_X8_hearData_92 a Post x1 x_29 M_36) ∧ (¬ (z_fi M_36 771 a27) < 0 → ((4 ≤ (z_fi M_36 771 a27) → P_X8_hearData_92 a Post x1 x_29 M_36) ∧ (¬ 4 ≤ (z_fi M_36 771 a27) → z_nn (z_fr M_36 1025 a) fun a43 => (vp_in (z_fi M_36 771 a27) (z_ln M_36 a43) ∧ (z_nn (z_ar M_36 a43 (((z_fi M_36 771 a27) : Int32).toNatClampNeg)) fun a48 => (P_X9_arrive a48 (z_fi M_36 772 a27) (z_fi M_36 773 a27) M_36 fun M_47 => (P_X8_hearData_92 a Post x1 x_29 M_47)))))))))) ∧ (¬ x_29 < 400 → Post M_32)))))))) ∧ (¬ t0 = 0 → Post M))))
def P_X8_hearData_18 (a : Nat) (Post : z_Mem → Prop)  (x1 : Option Nat) (M : z_Mem) : Prop := P_X8_hearData_19 a Post x1 0 M
set_option maxRecDepth 100000 in
def P_X8_hearData (a : Nat) (p1 : Option Nat) (M : z_Mem) (Post : z_Mem → Prop) : Prop := z_nn p1 fun a49 => ((((z_fi M 776 a49) = 0 → P_X8_hearData_18 a Post p1 M) ∧ (¬ (z_fi M 776 a49) = 0 → (((z_fi M 1028 a) = 0 → P_X8_hearData_19 a Post p1 1 M) ∧ (¬ (z_fi M 1028 a) = 0 → P_X8_hearData_18 a Post p1 M)))))
set_option maxRecDepth 100000 in
set_option maxHeartbeats 4000000 in
theorem v_X8_hearData_169 {G : z_G} {M0 : z_Mem} {a : Nat} {Post : z_Mem → Prop}   {x4 : Int32} {M : z_Mem} (ha : z_ki M a = 9) (f_x4 : x4 = 0 ∨ x4 = 1) (hP : P_X8_hearData_169 a Post x4 M) : z_V G Y_X8_hearData z_X0 M0 (z_QM G M0 (z_PV Post)) M 169 [(0, z_O (some a)), (4, z_I x4)] [] := by
  unfold P_X8_hearData_169 at hP
  refine z_iload dX8_hearData_169 1 rfl ?_
  refine z_if_eq (tgt := 181) dX8_hearData_171 (by decide) (fun h1 => ?_) (fun h1 => ?_)
  · replace hP := hP.1 h1
    refine z_aload_n dX8_hearData_181 rfl 0 rfl ?_
    refine z_aload_n dX8_hearData_182 rfl 0 rfl ?_
    refine z_getr (c := 8) (k := 0) (g := 1024) (t := 6) z_cb8 (Nat.le_of_ble_eq_true rfl) (Nat.le_of_ble_eq_true rfl) rfl rfl zw_238 rfl ha dX8_hearData_183 (fun f2 => ?_)
    obtain ⟨a3, e3, hP⟩ := hP
    have k3 := f2 a3 e3
    refine z_geti (c := 5) (k := 5) (g := 645) z_cb5 (Nat.le_of_ble_eq_true rfl) (Nat.le_of_ble_eq_true rfl) rfl (Nat.le_of_ble_eq_true rfl) zw_165 e3 k3 dX8_hearData_186 ?_
    refine z_iconst (v := 3) dX8_hearData_189 (by decide) ?_
    refine z_pc (pc' := 190) rfl ?_
    refine z_iadd dX8_hearData_190 ?_
    refine z_puti (c := 8) (k := 13) (g := 1037) z_cb8 (Nat.le_of_ble_eq_true rfl) (Nat.le_of_ble_eq_true rfl) (Nat.le_of_ble_eq_true rfl) rfl rfl rfl zw_254 rfl ha (Or.inl rfl) dX8_hearData_191 ?_
    refine z_nm (fun M_5 g_5 => ?_)
    replace hP := hP M_5 g_5
    have q_5 := z_k1 g_5
    have ha := z_kk q_5 ha
    exact z_retv rfl dX8_hearData_194 hP
  · replace hP := hP.2 h1
    refine z_aload_n dX8_hearData_174 rfl 0 rfl ?_
    refine z_wts (fun hT6 _ => ?_)
    refine z_cVv (c := 8) (n := 0) (Y1 := Y_X8_acknowledge) (st := []) rfl ha z_cb8 (Nat.le_of_ble_eq_true rfl) rfl (s_X8_acknowledge ha hP) rfl ⟨z_dc_X8_acknowledge, ⟨(Nat.le_of_ble_eq_true rfl), (Nat.le_of_ble_eq_true rfl)⟩, (Nat.le_of_ble_eq_true rfl)⟩ rfl zw_695 zw_697 zp_1 zw_8 zw_698 dX8_hearData_175 (fun M_6 hP _ x6 => ?_)
    have ha := x6.k (k := 8) hT6 ha
    refine z_goto (tgt := 194) dX8_hearData_178 (by decide) ?_
    exact z_retv rfl dX8_hearData_194 hP
set_option maxRecDepth 100000 in
set_option maxHeartbeats 4000000 in
theorem v_X8_hearData_121 {G : z_G} {M0 : z_Mem} {a : Nat} {Post : z_Mem → Prop}   {x1 : Option Nat} {x3 : Int32} {t0 : Int32} {M : z_Mem} (ha : z_ki M a = 9) (f_x1 : z_tr M x1 7) (f_t0 : t0 = 0 ∨ t0 = 1) (hP : P_X8_hearData_121 a Post x1 x3 t0 M) : z_V G Y_X8_hearData z_X0 M0 (z_QM G M0 (z_PV Post)) M 121 [(0, z_O (some a)), (1, z_O x1), (3, z_I x3)] [z_I t0] := by
  unfold P_X8_hearData_121 at hP
  refine z_istore (lv' := [(4, z_I _), (0, z_O _), (1, z_O _), (3, z_I _)]) dX8_hearData_121 (Nat.le_of_ble_eq_true rfl) rfl ?_
  refine z_aload_n dX8_hearData_123 rfl 1 rfl ?_
  refine z_getr (c := 8) (k := 9) (g := 1033) (t := 21) z_cb8 (Nat.le_of_ble_eq_true rfl) (Nat.le_of_ble_eq_true rfl) rfl rfl zw_250 rfl ha dX8_hearData_124 (fun f7 => ?_)
  refine z_iload_n dX8_hearData_127 rfl 3 rfl ?_
  refine z_iconst (v := 1) dX8_hearData_128 (by decide) ?_
  obtain ⟨a8, e8, hP⟩ := hP
  have k8 := f7 a8 e8
  obtain ⟨i9, hP⟩ := hP
  refine z_zast e8 k8 i9 (Or.inr rfl) dX8_hearData_129 ?_
  refine z_nm (fun M_10 g_10 => ?_)
  replace hP := hP M_10 g_10
  have q_10 := z_k3 g_10
  have ha := z_kk q_10 ha
  have f_x1 := z_trk q_10 f_x1
  refine z_pc (pc' := 130) rfl ?_
  refine z_aload_n dX8_hearData_130 rfl 1 rfl ?_
  refine z_aload_n dX8_hearData_131 rfl 1 rfl ?_
  refine z_geti (c := 8) (k := 10) (g := 1034) z_cb8 (Nat.le_of_ble_eq_true rfl) (Nat.le_of_ble_eq_true rfl) rfl (Nat.le_of_ble_eq_true rfl) zw_251 rfl ha dX8_hearData_132 ?_
  refine z_iload_n dX8_hearData_135 rfl 3 rfl ?_
  refine z_mmax zw_694 zw_102 zw_5 zw_103 dX8_hearData_136 (Nat.le_of_ble_eq_true rfl) (Nat.le_of_ble_eq_true rfl) ?_
  refine z_puti (c := 8) (k := 10) (g := 1034) z_cb8 (Nat.le_of_ble_eq_true rfl) (Nat.le_of_ble_eq_true rfl) (Nat.le_of_ble_eq_true rfl) rfl rfl rfl zw_251 rfl ha (Or.inl rfl) dX8_hearData_139 ?_
  refine z_nm (fun M_12 g_12 => ?_)
  replace hP := hP M_12 g_12
  have q_12 := z_k1 g_12
  have ha := z_kk q_12 ha
  have f_x1 := z_trk q_12 f_x1
  refine z_pc (pc' := 142) rfl ?_
  refine z_aload_n dX8_hearData_142 rfl 1 rfl ?_
  refine z_dup dX8_hearData_143 rfl ?_
  refine z_geti (c := 8) (k := 12) (g := 1036) z_cb8 (Nat.le_of_ble_eq_true rfl) (Nat.le_of_ble_eq_true rfl) rfl (Nat.le_of_ble_eq_true rfl) zw_253 rfl ha dX8_hearData_144 ?_
  refine z_iconst (v := 1) dX8_hearData_147 (by decide) ?_
  refine z_iadd dX8_hearData_148 ?_
  refine z_puti (c := 8) (k := 12) (g := 1036) z_cb8 (Nat.le_of_ble_eq_true rfl) (Nat.le_of_ble_eq_true rfl) (Nat.le_of_ble_eq_true rfl) rfl rfl rfl zw_253 rfl ha (Or.inl rfl) dX8_hearData_149 ?_
  refine z_nm (fun M_14 g_14 => ?_)
  replace hP := hP M_14 g_14
  have q_14 := z_k1 g_14
  have ha := z_kk q_14 ha
  have f_x1 := z_trk q_14 f_x1
  refine z_pc (pc' := 152) rfl ?_
  refine z_aload_n dX8_hearData_152 rfl 2 rfl ?_
  obtain ⟨a15, e15, hP⟩ := hP
  have k15 := f_x1 a15 e15
  refine z_getb (c := 6) (k := 9) (g := 777) z_cb6 (Nat.le_of_ble_eq_true rfl) (Nat.le_of_ble_eq_true rfl) rfl rfl zw_1089 e15 k15 dX8_hearData_153 (fun b16 => ?_)
  refine z_if_eq (tgt := 169) dX8_hearData_156 (by decide) (fun h17 => ?_) (fun h17 => ?_)
  · replace hP := hP.1 h17
    refine z_sub (lv' := [(0, z_O _), (4, z_I _)]) [1, 0] rfl ?_
    exact v_X8_hearData_169  ha f_t0 hP
  · replace hP := hP.2 h17
    refine z_aload_n dX8_hearData_159 rfl 1 rfl ?_
    refine z_dup dX8_hearData_160 rfl ?_
    refine z_geti (c := 8) (k := 11) (g := 1035) z_cb8 (Nat.le_of_ble_eq_true rfl) (Nat.le_of_ble_eq_true rfl) rfl (Nat.le_of_ble_eq_true rfl) zw_252 rfl ha dX8_hearData_161 ?_
    refine z_iconst (v := 1) dX8_hearData_164 (by decide) ?_
    refine z_pc (pc' := 165) rfl ?_
    refine z_iadd dX8_hearData_165 ?_
    refine z_puti (c := 8) (k := 11) (g := 1035) z_cb8 (Nat.le_of_ble_eq_true rfl) (Nat.le_of_ble_eq_true rfl) (Nat.le_of_ble_eq_true rfl) rfl rfl rfl zw_252 rfl ha (Or.inl rfl) dX8_hearData_166 ?_
    refine z_nm (fun M_19 g_19 => ?_)
    replace hP := hP M_19 g_19
    have q_19 := z_k1 g_19
    have ha := z_kk q_19 ha
    have k15 := z_kk q_19 k15
    refine z_sub (lv' := [(0, z_O _), (4, z_I _)]) [1, 0] rfl ?_
    exact v_X8_hearData_169  ha f_t0 hP
set_option maxRecDepth 100000 in
set_option maxHeartbeats 4000000 in
theorem v_X8_hearData_116 {G : z_G} {M0 : z_Mem} {a : Nat} {Post : z_Mem → Prop}   {x1 : Option Nat} {x3 : Int32} {M : z_Mem} (ha : z_ki M a = 9) (f_x1 : z_tr M x1 7) (hP : P_X8_hearData_116 a Post x1 x3 M) : z_V G Y_X8_hearData z_X0 M0 (z_QM G M0 (z_PV Post)) M 116 [(0, z_O (some a)), (1, z_O x1), (3, z_I x3)] [] := by
  unfold P_X8_hearData_116 at hP
  refine z_iconst (v := 1) dX8_hearData_116 (by decide) ?_
  refine z_goto (tgt := 121) dX8_hearData_117 (by decide) ?_
  refine z_sub (lv' := [(0, z_O _), (1, z_O _), (3, z_I _)]) [0, 1, 2] rfl ?_
  exact v_X8_hearData_121  ha f_x1 (Or.inr rfl) hP
set_option maxRecDepth 100000 in
set_option maxHeartbeats 4000000 in
theorem v_X8_hearData_92 {G : z_G} {M0 : z_Mem} {a : Nat} {Post : z_Mem → Prop}   {x1 : Option Nat} {x3 : Int32} {M : z_Mem} (ha : z_ki M a = 9) (f_x1 : z_tr M x1 7) (hP : P_X8_hearData_92 a Post x1 x3 M) : z_V G Y_X8_hearData z_X0 M0 (z_QM G M0 (z_PV Post)) M 92 [(0, z_O (some a)), (1, z_O x1), (3, z_I x3)] [] := by
  unfold P_X8_hearData_92 at hP
  refine z_aload_n dX8_hearData_92 rfl 1 rfl ?_
  obtain ⟨a20, e20, hP⟩ := hP
  have k20 := f_x1 a20 e20
  refine z_getb (c := 6) (k := 7) (g := 775) z_cb6 (Nat.le_of_ble_eq_true rfl) (Nat.le_of_ble_eq_true rfl) rfl rfl zw_1082 e20 k20 dX8_hearData_93 (fun b21 => ?_)
  refine z_if_ne (tgt := 116) dX8_hearData_96 (by decide) (fun h22 => ?_) (fun h22 => ?_)
  · replace hP := hP.2 h22
    refine z_sub (lv' := [(0, z_O _), (1, z_O _), (3, z_I _)]) [0, 1, 2] rfl ?_
    exact v_X8_hearData_116  ha (z_trn e20 k20) hP
  · replace hP := hP.1 h22
    refine z_iload_n dX8_hearData_99 rfl 2 rfl ?_
    refine z_aload_n dX8_hearData_100 rfl 0 rfl ?_
    refine z_geti (c := 8) (k := 10) (g := 1034) z_cb8 (Nat.le_of_ble_eq_true rfl) (Nat.le_of_ble_eq_true rfl) rfl (Nat.le_of_ble_eq_true rfl) zw_251 rfl ha dX8_hearData_101 ?_
    refine z_iconst (v := 1) dX8_hearData_104 (by decide) ?_
    refine z_pc (pc' := 105) rfl ?_
    refine z_iadd dX8_hearData_105 ?_
    refine z_icmp_ne (tgt := 116) dX8_hearData_106 (by decide) (fun h24 => ?_) (fun h24 => ?_)
    · replace hP := hP.2 h24
      refine z_sub (lv' := [(0, z_O _), (1, z_O _), (3, z_I _)]) [0, 1, 2] rfl ?_
      exact v_X8_hearData_116  ha (z_trn e20 k20) hP
    · replace hP := hP.1 h24
      refine z_aload_n dX8_hearData_109 rfl 0 rfl ?_
      refine z_geti (c := 8) (k := 12) (g := 1036) z_cb8 (Nat.le_of_ble_eq_true rfl) (Nat.le_of_ble_eq_true rfl) rfl (Nat.le_of_ble_eq_true rfl) zw_253 rfl ha dX8_hearData_110 ?_
      refine z_if_le (tgt := 120) dX8_hearData_113 (by decide) (fun h26 => ?_) (fun h26 => ?_)
      · replace hP := hP.1 h26
        refine z_iconst (v := 0) dX8_hearData_120 (by decide) ?_
        refine z_sub (lv' := [(0, z_O _), (1, z_O _), (3, z_I _)]) [0, 1, 2] rfl ?_
        exact v_X8_hearData_121  ha (z_trn e20 k20) (Or.inl rfl) hP
      · replace hP := hP.2 h26
        refine z_sub (lv' := [(0, z_O _), (1, z_O _), (3, z_I _)]) [0, 1, 2] rfl ?_
        exact v_X8_hearData_116  ha (z_trn e20 k20) hP
set_option maxRecDepth 100000 in
set_option maxHeartbeats 4000000 in
theorem v_X8_hearData_19 {G : z_G} {M0 : z_Mem} {a : Nat} {Post : z_Mem → Prop}   {x1 : Option Nat} {t0 : Int32} {M : z_Mem} (ha : z_ki M a = 9) (f_x1 : z_tr M x1 7) (f_t0 : t0 = 0 ∨ t0 = 1) (hP : P_X8_hearData_19 a Post x1 t0 M) : z_V G Y_X8_hearData z_X0 M0 (z_QM G M0 (z_PV Post)) M 19 [(0, z_O (some a)), (1, z_O x1)] [z_I t0] := by
  unfold P_X8_hearData_19 at hP
  refine z_istore_n (lv' := [(2, z_I _), (0, z_O _), (1, z_O _)]) dX8_hearData_19 rfl (Nat.le_of_ble_eq_true rfl) rfl ?_
  refine z_aload_n dX8_hearData_20 rfl 2 rfl ?_
  obtain ⟨a27, e27, hP⟩ := hP
  have k27 := f_x1 a27 e27
  refine z_geti (c := 6) (k := 0) (g := 768) z_cb6 (Nat.le_of_ble_eq_true rfl) (Nat.le_of_ble_eq_true rfl) rfl (Nat.le_of_ble_eq_true rfl) zw_1058 e27 k27 dX8_hearData_21 ?_
  refine z_topi (fun x_29 y_29 => ?_)
  replace hP := hP x_29 y_29
  refine z_istore_n (lv' := [(3, z_I _), (2, z_I _), (0, z_O _), (1, z_O _)]) dX8_hearData_24 rfl (Nat.le_of_ble_eq_true rfl) rfl ?_
  refine z_iload_n dX8_hearData_25 rfl 1 rfl ?_
  refine z_if_ne (tgt := 51) dX8_hearData_26 (by decide) (fun h30 => ?_) (fun h30 => ?_)
  · replace hP := hP.2 h30
    exact z_retv rfl dX8_hearData_51 hP
  · replace hP := hP.1 h30
    refine z_aload_n dX8_hearData_29 rfl 2 rfl ?_
    refine z_pc (pc' := 30) rfl ?_
    refine z_aload_n dX8_hearData_30 rfl 3 rfl ?_
    refine z_geti (c := 6) (k := 6) (g := 774) z_cb6 (Nat.le_of_ble_eq_true rfl) (Nat.le_of_ble_eq_true rfl) rfl (Nat.le_of_ble_eq_true rfl) zw_1080 e27 k27 dX8_hearData_31 ?_
    refine z_wts (fun hT32 _ => ?_)
    refine z_cVb (c := 8) (n := 1) (Y1 := Y_X8_takesKey) (st := []) rfl ha z_cb8 (Nat.le_of_ble_eq_true rfl) rfl (s_X8_takesKey ha hP) rfl ⟨z_dc_X8_takesKey, ⟨(Nat.le_of_ble_eq_true rfl), (Nat.le_of_ble_eq_true rfl)⟩, (Nat.le_of_ble_eq_true rfl)⟩ rfl zw_905 zw_907 zp_10 zw_8 zw_908 dX8_hearData_34 (fun x_32 M_32 b32 hP _ x32 => ?_)
    have ha := x32.k (k := 8) hT32 ha
    have k27 := x32.k (k := 6) hT32 k27
    refine z_if_eq (tgt := 51) dX8_hearData_37 (by decide) (fun h33 => ?_) (fun h33 => ?_)
    · replace hP := hP.1 h33
      exact z_retv rfl dX8_hearData_51 hP
    · replace hP := hP.2 h33
      refine z_iload_n dX8_hearData_40 rfl 0 rfl ?_
      refine z_if_lt (tgt := 51) dX8_hearData_41 (by decide) (fun h34 => ?_) (fun h34 => ?_)
      · replace hP := hP.1 h34
        exact z_retv rfl dX8_hearData_51 hP
      · replace hP := hP.2 h34
        refine z_iload_n dX8_hearData_44 rfl 0 rfl ?_
        refine z_sipush (v := 400) dX8_hearData_45 (by decide) ?_
        refine z_pc (pc' := 48) rfl ?_
        refine z_icmp_lt (tgt := 52) dX8_hearData_48 (by decide) (fun h35 => ?_) (fun h35 => ?_)
        · replace hP := hP.1 h35
          refine z_aload_n dX8_hearData_52 rfl 3 rfl ?_
          refine z_iconst (v := 1) dX8_hearData_53 (by decide) ?_
          refine z_puti (c := 6) (k := 11) (g := 779) z_cb6 (Nat.le_of_ble_eq_true rfl) (Nat.le_of_ble_eq_true rfl) (Nat.le_of_ble_eq_true rfl) rfl rfl rfl zw_1095 e27 k27 (Or.inl rfl) dX8_hearData_54 ?_
          refine z_nm (fun M_36 g_36 => ?_)
          replace hP := hP M_36 g_36
          have q_36 := z_k1 g_36
          have ha := z_kk q_36 ha
          have k27 := z_kk q_36 k27
          refine z_aload_n dX8_hearData_57 rfl 3 rfl ?_
          refine z_geti (c := 6) (k := 3) (g := 771) z_cb6 (Nat.le_of_ble_eq_true rfl) (Nat.le_of_ble_eq_true rfl) rfl (Nat.le_of_ble_eq_true rfl) zw_1068 e27 k27 dX8_hearData_58 ?_
          refine z_if_lt (tgt := 92) dX8_hearData_61 (by decide) (fun h38 => ?_) (fun h38 => ?_)
          · replace hP := hP.1 h38
            refine z_sub (lv' := [(0, z_O _), (1, z_O _), (3, z_I _)]) [2, 3, 0] rfl ?_
            exact v_X8_hearData_92  ha (z_trn e27 k27) hP
          · replace hP := hP.2 h38
            refine z_aload_n dX8_hearData_64 rfl 3 rfl ?_
            refine z_pc (pc' := 65) rfl ?_
            refine z_geti (c := 6) (k := 3) (g := 771) z_cb6 (Nat.le_of_ble_eq_true rfl) (Nat.le_of_ble_eq_true rfl) rfl (Nat.le_of_ble_eq_true rfl) zw_1068 e27 k27 dX8_hearData_65 ?_
            refine z_iconst (v := 4) dX8_hearData_68 (by decide) ?_
            refine z_icmp_ge (tgt := 92) dX8_hearData_69 (by decide) (fun h40 => ?_) (fun h40 => ?_)
            · replace hP := hP.1 h40
              refine z_sub (lv' := [(0, z_O _), (1, z_O _), (3, z_I _)]) [2, 3, 0] rfl ?_
              exact v_X8_hearData_92  ha (z_trn e27 k27) hP
            · replace hP := hP.2 h40
              refine z_aload_n dX8_hearData_72 rfl 2 rfl ?_
              refine z_getr (c := 8) (k := 1) (g := 1025) (t := 24) z_cb8 (Nat.le_of_ble_eq_true rfl) (Nat.le_of_ble_eq_true rfl) rfl rfl zw_239 rfl ha dX8_hearData_73 (fun f41 => ?_)
              refine z_aload_n dX8_hearData_76 rfl 3 rfl ?_
              refine z_geti (c := 6) (k := 3) (g := 771) z_cb6 (Nat.le_of_ble_eq_true rfl) (Nat.le_of_ble_eq_true rfl) rfl (Nat.le_of_ble_eq_true rfl) zw_1068 e27 k27 dX8_hearData_77 ?_
              refine z_pc (pc' := 80) rfl ?_
              obtain ⟨a43, e43, hP⟩ := hP
              have k43 := f41 a43 e43
              obtain ⟨i44, hP⟩ := hP
              refine z_aald (t := 24) e43 k43 (Nat.le_of_ble_eq_true rfl) (Nat.le_of_ble_eq_true rfl) i44 dX8_hearData_80 (fun f44 => ?_)
              refine z_aload_n dX8_hearData_81 rfl 3 rfl ?_
              refine z_geti (c := 6) (k := 4) (g := 772) z_cb6 (Nat.le_of_ble_eq_true rfl) (Nat.le_of_ble_eq_true rfl) rfl (Nat.le_of_ble_eq_true rfl) zw_1072 e27 k27 dX8_hearData_82 ?_
              refine z_aload_n dX8_hearData_85 rfl 3 rfl ?_
              refine z_geti (c := 6) (k := 5) (g := 773) z_cb6 (Nat.le_of_ble_eq_true rfl) (Nat.le_of_ble_eq_true rfl) rfl (Nat.le_of_ble_eq_true rfl) zw_1076 e27 k27 dX8_hearData_86 ?_
              obtain ⟨a48, e48, hP⟩ := hP
              have k48 := f44 a48 e48
              refine z_wts (fun hT47 _ => ?_)
              refine z_cVv (c := 9) (n := 2) (Y1 := Y_X9_arrive) (st := []) e48 k48 z_cb9 (Nat.le_of_ble_eq_true rfl) rfl (s_X9_arrive k48 hP) rfl ⟨z_dc_X9_arrive, ⟨(Nat.le_of_ble_eq_true rfl), (Nat.le_of_ble_eq_true rfl)⟩, (Nat.le_of_ble_eq_true rfl)⟩ rfl zw_909 zw_910 zw_911 zw_7 zw_912 dX8_hearData_89 (fun M_47 hP _ x47 => ?_)
              have ha := x47.k (k := 8) hT47 ha
              have k27 := x47.k (k := 6) hT47 k27
              refine z_sub (lv' := [(0, z_O _), (1, z_O _), (3, z_I _)]) [2, 3, 0] rfl ?_
              exact v_X8_hearData_92  ha (z_trn e27 k27) hP
        · replace hP := hP.2 h35
          exact z_retv rfl dX8_hearData_51 hP
set_option maxRecDepth 100000 in
set_option maxHeartbeats 4000000 in
theorem v_X8_hearData_18 {G : z_G} {M0 : z_Mem} {a : Nat} {Post : z_Mem → Prop}   {x1 : Option Nat} {M : z_Mem} (ha : z_ki M a = 9) (f_x1 : z_tr M x1 7) (hP : P_X8_hearData_18 a Post x1 M) : z_V G Y_X8_hearData z_X0 M0 (z_QM G M0 (z_PV Post)) M 18 [(0, z_O (some a)), (1, z_O x1)] [] := by
  unfold P_X8_hearData_18 at hP
  refine z_iconst (v := 0) dX8_hearData_18 (by decide) ?_
  refine z_sub (lv' := [(0, z_O _), (1, z_O _)]) [0, 1] rfl ?_
  exact v_X8_hearData_19  ha f_x1 (Or.inl rfl) hP
set_option maxRecDepth 100000 in
set_option maxHeartbeats 4000000 in
theorem s_X8_hearData {G : z_G} {M : z_Mem} {a : Nat} {p1 : Option Nat} {Post : z_Mem → Prop} (ha : z_ki M a = 9) (f_p1 : z_tr M p1 7) (hP : P_X8_hearData a p1 M Post) : z_Mt G Y_X8_hearData M [z_O (some a), z_O p1] (z_PV Post) := by
  refine z_ofV (by decide) (Nat.le_of_ble_eq_true rfl) ?_
  unfold P_X8_hearData at hP
  refine z_sub (lv' := [(0, z_O (some a)), (1, z_O p1)]) [0, 1] rfl ?_
  refine z_aload_n dX8_hearData_0 rfl 1 rfl ?_
  obtain ⟨a49, e49, hP⟩ := hP
  have k49 := f_p1 a49 e49
  refine z_getb (c := 6) (k := 8) (g := 776) z_cb6 (Nat.le_of_ble_eq_true rfl) (Nat.le_of_ble_eq_true rfl) rfl rfl zw_1085 e49 k49 dX8_hearData_1 (fun b50 => ?_)
  refine z_if_eq (tgt := 18) dX8_hearData_4 (by decide) (fun h51 => ?_) (fun h51 => ?_)
  · replace hP := hP.1 h51
    refine z_sub (lv' := [(0, z_O _), (1, z_O _)]) [0, 1] rfl ?_
    exact v_X8_hearData_18  ha (z_trn e49 k49) hP
  · replace hP := hP.2 h51
    refine z_aload_n dX8_hearData_7 rfl 0 rfl ?_
    refine z_getb (c := 8) (k := 4) (g := 1028) z_cb8 (Nat.le_of_ble_eq_true rfl) (Nat.le_of_ble_eq_true rfl) rfl rfl zw_244 rfl ha dX8_hearData_8 (fun b52 => ?_)
    refine z_if_ne (tgt := 18) dX8_hearData_11 (by decide) (fun h53 => ?_) (fun h53 => ?_)
    · replace hP := hP.2 h53
      refine z_sub (lv' := [(0, z_O _), (1, z_O _)]) [0, 1] rfl ?_
      exact v_X8_hearData_18  ha (z_trn e49 k49) hP
    · replace hP := hP.1 h53
      refine z_iconst (v := 1) dX8_hearData_14 (by decide) ?_
      refine z_goto (tgt := 19) dX8_hearData_15 (by decide) ?_
      refine z_sub (lv' := [(0, z_O _), (1, z_O _)]) [0, 1] rfl ?_
      exact v_X8_hearData_19  ha (z_trn e49 k49) (Or.inr rfl) hP
set_option maxRecDepth 100000 in
def P_X8_hearWhenEstablished (a : Nat) (p1 : Option Nat) (M : z_Mem) (Post : z_Mem → Prop) : Prop := z_nn p1 fun a1 => ((((z_fi M 512 a1) = 5 → z_room M 8 ∧ (∀ M_16 : z_Mem, M_16 = z_new M 5 8 → (P_X4_init (z_sz M) 6 M_16 fun M_17 => (z_nn (z_fr M 1024 a) fun a19 => (P_X5_putToClient a19 (z_fi M 513 a1) (some (z_sz M)) M_17 fun M_18 => (Post M_18)))))) ∧ (¬ (z_fi M 512 a1) = 5 → (((z_fi M 512 a1) = 7 → ∀ M_12 : z_Mem, M_12 = z_sfi M 1026 a 2 → (Post M_12)) ∧ (¬ (z_fi M 512 a1) = 7 → (((z_fr M 515 a1) = none → Post M) ∧ (∀ a7 : Nat, (z_fr M 515 a1) = some a7 → ∀ M_9 : z_Mem, M_9 = z_sfi M 1038 a (z_fi M 513 a1) → (P_X8_hearData a (z_fr M_9 515 a1) M_9 fun M_11 => (Post M_11)))))))))
set_option maxRecDepth 100000 in
set_option maxHeartbeats 4000000 in
theorem s_X8_hearWhenEstablished {G : z_G} {M : z_Mem} {a : Nat} {p1 : Option Nat} {Post : z_Mem → Prop} (ha : z_ki M a = 9) (f_p1 : z_tr M p1 5) (hP : P_X8_hearWhenEstablished a p1 M Post) : z_Mt G Y_X8_hearWhenEstablished M [z_O (some a), z_O p1] (z_PV Post) := by
  refine z_ofV (by decide) (Nat.le_of_ble_eq_true rfl) ?_
  unfold P_X8_hearWhenEstablished at hP
  refine z_sub (lv' := [(0, z_O (some a)), (1, z_O p1)]) [0, 1] rfl ?_
  refine z_aload_n dX8_hearWhenEstablished_0 rfl 1 rfl ?_
  obtain ⟨a1, e1, hP⟩ := hP
  have k1 := f_p1 a1 e1
  refine z_geti (c := 4) (k := 0) (g := 512) z_cb4 (Nat.le_of_ble_eq_true rfl) (Nat.le_of_ble_eq_true rfl) rfl (Nat.le_of_ble_eq_true rfl) zw_121 e1 k1 dX8_hearWhenEstablished_1 ?_
  refine z_iconst (v := 5) dX8_hearWhenEstablished_4 (by decide) ?_
  refine z_icmp_ne (tgt := 31) dX8_hearWhenEstablished_5 (by decide) (fun h3 => ?_) (fun h3 => ?_)
  · replace hP := hP.2 h3
    refine z_aload_n dX8_hearWhenEstablished_31 rfl 1 rfl ?_
    refine z_geti (c := 4) (k := 0) (g := 512) z_cb4 (Nat.le_of_ble_eq_true rfl) (Nat.le_of_ble_eq_true rfl) rfl (Nat.le_of_ble_eq_true rfl) zw_121 e1 k1 dX8_hearWhenEstablished_32 ?_
    refine z_bipush (v := 7) dX8_hearWhenEstablished_35 (by decide) ?_
    refine z_pc (pc' := 37) rfl ?_
    refine z_icmp_ne (tgt := 48) dX8_hearWhenEstablished_37 (by decide) (fun h5 => ?_) (fun h5 => ?_)
    · replace hP := hP.2 h5
      refine z_aload_n dX8_hearWhenEstablished_48 rfl 1 rfl ?_
      refine z_getr (c := 4) (k := 3) (g := 515) (t := 7) z_cb4 (Nat.le_of_ble_eq_true rfl) (Nat.le_of_ble_eq_true rfl) rfl rfl zw_129 e1 k1 dX8_hearWhenEstablished_49 (fun f6 => ?_)
      refine z_ifnull (tgt := 71) dX8_hearWhenEstablished_52 (by decide) (fun h7 => ?_) (fun a7 e7 => ?_)
      · replace hP := hP.1 h7
        exact z_retv rfl dX8_hearWhenEstablished_71 hP
      · replace hP := hP.2 a7 e7
        have k7 := f6 a7 e7
        refine z_aload_n dX8_hearWhenEstablished_55 rfl 0 rfl ?_
        refine z_aload_n dX8_hearWhenEstablished_56 rfl 1 rfl ?_
        refine z_geti (c := 4) (k := 1) (g := 513) z_cb4 (Nat.le_of_ble_eq_true rfl) (Nat.le_of_ble_eq_true rfl) rfl (Nat.le_of_ble_eq_true rfl) zw_125 e1 k1 dX8_hearWhenEstablished_57 ?_
        refine z_puti (c := 8) (k := 14) (g := 1038) z_cb8 (Nat.le_of_ble_eq_true rfl) (Nat.le_of_ble_eq_true rfl) (Nat.le_of_ble_eq_true rfl) rfl rfl rfl zw_255 rfl ha (Or.inl rfl) dX8_hearWhenEstablished_60 ?_
        refine z_nm (fun M_9 g_9 => ?_)
        replace hP := hP M_9 g_9
        have q_9 := z_k1 g_9
        have ha := z_kk q_9 ha
        have k1 := z_kk q_9 k1
        refine z_pc (pc' := 63) rfl ?_
        refine z_aload_n dX8_hearWhenEstablished_63 rfl 0 rfl ?_
        refine z_aload_n dX8_hearWhenEstablished_64 rfl 1 rfl ?_
        refine z_getr (c := 4) (k := 3) (g := 515) (t := 7) z_cb4 (Nat.le_of_ble_eq_true rfl) (Nat.le_of_ble_eq_true rfl) rfl rfl zw_129 e1 k1 dX8_hearWhenEstablished_65 (fun f10 => ?_)
        refine z_wts (fun hT11 _ => ?_)
        refine z_cVv (c := 8) (n := 1) (Y1 := Y_X8_hearData) (st := []) rfl ha z_cb8 (Nat.le_of_ble_eq_true rfl) rfl (s_X8_hearData ha f10 hP) rfl ⟨z_dc_X8_hearData, ⟨(Nat.le_of_ble_eq_true rfl), (Nat.le_of_ble_eq_true rfl)⟩, (Nat.le_of_ble_eq_true rfl)⟩ rfl zw_901 zw_903 zp_9 zw_8 zw_904 dX8_hearWhenEstablished_68 (fun M_11 hP _ x11 => ?_)
        have ha := x11.k (k := 8) hT11 ha
        have k1 := x11.k (k := 4) hT11 k1
        exact z_retv rfl dX8_hearWhenEstablished_71 hP
    · replace hP := hP.1 h5
      refine z_aload_n dX8_hearWhenEstablished_40 rfl 0 rfl ?_
      refine z_iconst (v := 2) dX8_hearWhenEstablished_41 (by decide) ?_
      refine z_puti (c := 8) (k := 2) (g := 1026) z_cb8 (Nat.le_of_ble_eq_true rfl) (Nat.le_of_ble_eq_true rfl) (Nat.le_of_ble_eq_true rfl) rfl rfl rfl zw_240 rfl ha (Or.inl rfl) dX8_hearWhenEstablished_42 ?_
      refine z_nm (fun M_12 g_12 => ?_)
      replace hP := hP M_12 g_12
      have q_12 := z_k1 g_12
      have ha := z_kk q_12 ha
      have k1 := z_kk q_12 k1
      refine z_goto (tgt := 71) dX8_hearWhenEstablished_45 (by decide) ?_
      exact z_retv rfl dX8_hearWhenEstablished_71 hP
  · replace hP := hP.1 h3
    refine z_aload_n dX8_hearWhenEstablished_8 rfl 0 rfl ?_
    refine z_getr (c := 8) (k := 0) (g := 1024) (t := 6) z_cb8 (Nat.le_of_ble_eq_true rfl) (Nat.le_of_ble_eq_true rfl) rfl rfl zw_238 rfl ha dX8_hearWhenEstablished_9 (fun f13 => ?_)
    refine z_aload_n dX8_hearWhenEstablished_12 rfl 1 rfl ?_
    refine z_pc (pc' := 13) rfl ?_
    refine z_geti (c := 4) (k := 1) (g := 513) z_cb4 (Nat.le_of_ble_eq_true rfl) (Nat.le_of_ble_eq_true rfl) rfl (Nat.le_of_ble_eq_true rfl) zw_125 e1 k1 dX8_hearWhenEstablished_13 ?_
    obtain ⟨r15, hP⟩ := hP
    refine z_wts (fun hT15 _ => ?_)
    refine z_newo (c := 4) z_cb4 (Nat.le_of_ble_eq_true rfl) rfl z_df4 zw_699 zw_115 zw_6 r15 dX8_hearWhenEstablished_16 (fun x15 k15 => ?_)
    refine z_nm (fun M_16 g_16 => ?_)
    replace hP := hP M_16 g_16
    have x15 := z_xe g_16 x15
    have k15 := z_xk g_16 k15
    have ha := x15.k (k := 8) hT15 ha
    have k1 := x15.k (k := 4) hT15 k1
    have f13 := x15.t (k := 5) hT15 f13
    refine z_dup dX8_hearWhenEstablished_19 rfl ?_
    refine z_bipush (v := 6) dX8_hearWhenEstablished_20 (by decide) ?_
    refine z_wts (fun hT17 _ => ?_)
    refine z_cIv (n := 1) (Y1 := Y_X4_init) (st := [z_O _, z_I _, z_O _]) rfl (s_X4_init k15 hP) rfl rfl rfl ⟨z_dc_X4_init, ⟨(Nat.le_of_ble_eq_true rfl), (Nat.le_of_ble_eq_true rfl)⟩, (Nat.le_of_ble_eq_true rfl)⟩ rfl zw_700 zw_117 zw_6 zw_118 dX8_hearWhenEstablished_22 (fun M_17 hP _ x17 => ?_)
    have ha := x17.k (k := 8) hT17 ha
    have k1 := x17.k (k := 4) hT17 k1
    have k15 := x17.k (k := 4) hT17 k15
    have f13 := x17.t (k := 5) hT17 f13
    obtain ⟨a19, e19, hP⟩ := hP
    have k19 := f13 a19 e19
    refine z_wts (fun hT18 _ => ?_)
    refine z_cVv (c := 5) (n := 2) (Y1 := Y_X5_putToClient) (st := []) e19 k19 z_cb5 (Nat.le_of_ble_eq_true rfl) rfl (s_X5_putToClient k19 (z_trn rfl k15) hP) rfl ⟨z_dc_X5_putToClient, ⟨(Nat.le_of_ble_eq_true rfl), (Nat.le_of_ble_eq_true rfl)⟩, (Nat.le_of_ble_eq_true rfl)⟩ rfl zw_745 zw_746 zw_747 zw_2 zw_748 dX8_hearWhenEstablished_25 (fun M_18 hP _ x18 => ?_)
    have ha := x18.k (k := 8) hT18 ha
    have k1 := x18.k (k := 4) hT18 k1
    refine z_pc (pc' := 28) rfl ?_
    refine z_goto (tgt := 71) dX8_hearWhenEstablished_28 (by decide) ?_
    exact z_retv rfl dX8_hearWhenEstablished_71 hP
def P_X8_hear_15 (a : Nat) (Post : z_Mem → Prop)  (x1 : Option Nat) (M : z_Mem) : Prop := (((z_fi M 1026 a) = 2 → Post M) ∧ (¬ (z_fi M 1026 a) = 2 → z_nn x1 fun a3 => ((((z_fi M 512 a3) = 0 → P_X8_hearHello a x1 M fun M_18 => (Post M_18)) ∧ (¬ (z_fi M 512 a3) = 0 → (((z_fi M 1026 a) = 3 → z_room M 8 ∧ (∀ M_14 : z_Mem, M_14 = z_new M 5 8 → (P_X4_init (z_sz M) 8 M_14 fun M_15 => (z_nn (z_fr M 1024 a) fun a17 => (P_X5_putToClient a17 (z_fi M 513 a3) (some (z_sz M)) M_15 fun M_16 => (Post M_16)))))) ∧ (¬ (z_fi M 1026 a) = 3 → (((z_fi M 1026 a) = 1 → P_X8_hearWhenEstablished a x1 M fun M_10 => (Post M_10)) ∧ (¬ (z_fi M 1026 a) = 1 → Post M)))))))))
set_option maxRecDepth 100000 in
def P_X8_hear (a : Nat) (p1 : Option Nat) (M : z_Mem) (Post : z_Mem → Prop) : Prop := z_nn p1 fun a19 => ((((z_fr M 515 a19) = none → P_X8_hear_15 a Post p1 M) ∧ (∀ a21 : Nat, (z_fr M 515 a19) = some a21 → z_nn (z_fr M 515 a19) fun a23 => (∀ M_24 : z_Mem, M_24 = z_sfi M 779 a23 2 → (P_X8_hear_15 a Post p1 M_24)))))
set_option maxRecDepth 100000 in
set_option maxHeartbeats 4000000 in
theorem v_X8_hear_15 {G : z_G} {M0 : z_Mem} {a : Nat} {Post : z_Mem → Prop}   {x1 : Option Nat} {M : z_Mem} (ha : z_ki M a = 9) (f_x1 : z_tr M x1 5) (hP : P_X8_hear_15 a Post x1 M) : z_V G Y_X8_hear z_X0 M0 (z_QM G M0 (z_PV Post)) M 15 [(0, z_O (some a)), (1, z_O x1)] [] := by
  unfold P_X8_hear_15 at hP
  refine z_aload_n dX8_hear_15 rfl 0 rfl ?_
  refine z_geti (c := 8) (k := 2) (g := 1026) z_cb8 (Nat.le_of_ble_eq_true rfl) (Nat.le_of_ble_eq_true rfl) rfl (Nat.le_of_ble_eq_true rfl) zw_240 rfl ha dX8_hear_16 ?_
  refine z_iconst (v := 2) dX8_hear_19 (by decide) ?_
  refine z_icmp_ne (tgt := 24) dX8_hear_20 (by decide) (fun h2 => ?_) (fun h2 => ?_)
  · replace hP := hP.2 h2
    refine z_aload_n dX8_hear_24 rfl 1 rfl ?_
    obtain ⟨a3, e3, hP⟩ := hP
    have k3 := f_x1 a3 e3
    refine z_geti (c := 4) (k := 0) (g := 512) z_cb4 (Nat.le_of_ble_eq_true rfl) (Nat.le_of_ble_eq_true rfl) rfl (Nat.le_of_ble_eq_true rfl) zw_121 e3 k3 dX8_hear_25 ?_
    refine z_if_ne (tgt := 39) dX8_hear_28 (by decide) (fun h5 => ?_) (fun h5 => ?_)
    · replace hP := hP.2 h5
      refine z_aload_n dX8_hear_39 rfl 0 rfl ?_
      refine z_pc (pc' := 40) rfl ?_
      refine z_geti (c := 8) (k := 2) (g := 1026) z_cb8 (Nat.le_of_ble_eq_true rfl) (Nat.le_of_ble_eq_true rfl) rfl (Nat.le_of_ble_eq_true rfl) zw_240 rfl ha dX8_hear_40 ?_
      refine z_iconst (v := 3) dX8_hear_43 (by decide) ?_
      refine z_icmp_ne (tgt := 70) dX8_hear_44 (by decide) (fun h7 => ?_) (fun h7 => ?_)
      · replace hP := hP.2 h7
        refine z_aload_n dX8_hear_70 rfl 0 rfl ?_
        refine z_geti (c := 8) (k := 2) (g := 1026) z_cb8 (Nat.le_of_ble_eq_true rfl) (Nat.le_of_ble_eq_true rfl) rfl (Nat.le_of_ble_eq_true rfl) zw_240 rfl ha dX8_hear_71 ?_
        refine z_iconst (v := 1) dX8_hear_74 (by decide) ?_
        refine z_icmp_ne (tgt := 83) dX8_hear_75 (by decide) (fun h9 => ?_) (fun h9 => ?_)
        · replace hP := hP.2 h9
          exact z_retv rfl dX8_hear_83 hP
        · replace hP := hP.1 h9
          refine z_aload_n dX8_hear_78 rfl 0 rfl ?_
          refine z_pc (pc' := 79) rfl ?_
          refine z_aload_n dX8_hear_79 rfl 1 rfl ?_
          refine z_wts (fun hT10 _ => ?_)
          refine z_cVv (c := 8) (n := 1) (Y1 := Y_X8_hearWhenEstablished) (st := []) rfl ha z_cb8 (Nat.le_of_ble_eq_true rfl) rfl (s_X8_hearWhenEstablished ha (z_trn e3 k3) hP) rfl ⟨z_dc_X8_hearWhenEstablished, ⟨(Nat.le_of_ble_eq_true rfl), (Nat.le_of_ble_eq_true rfl)⟩, (Nat.le_of_ble_eq_true rfl)⟩ rfl zw_897 zw_899 zp_8 zw_8 zw_900 dX8_hear_80 (fun M_10 hP _ x10 => ?_)
          have ha := x10.k (k := 8) hT10 ha
          have k3 := x10.k (k := 4) hT10 k3
          exact z_retv rfl dX8_hear_83 hP
      · replace hP := hP.1 h7
        refine z_aload_n dX8_hear_47 rfl 0 rfl ?_
        refine z_getr (c := 8) (k := 0) (g := 1024) (t := 6) z_cb8 (Nat.le_of_ble_eq_true rfl) (Nat.le_of_ble_eq_true rfl) rfl rfl zw_238 rfl ha dX8_hear_48 (fun f11 => ?_)
        refine z_aload_n dX8_hear_51 rfl 1 rfl ?_
        refine z_geti (c := 4) (k := 1) (g := 513) z_cb4 (Nat.le_of_ble_eq_true rfl) (Nat.le_of_ble_eq_true rfl) rfl (Nat.le_of_ble_eq_true rfl) zw_125 e3 k3 dX8_hear_52 ?_
        refine z_pc (pc' := 55) rfl ?_
        obtain ⟨r13, hP⟩ := hP
        refine z_wts (fun hT13 _ => ?_)
        refine z_newo (c := 4) z_cb4 (Nat.le_of_ble_eq_true rfl) rfl z_df4 zw_699 zw_115 zw_6 r13 dX8_hear_55 (fun x13 k13 => ?_)
        refine z_nm (fun M_14 g_14 => ?_)
        replace hP := hP M_14 g_14
        have x13 := z_xe g_14 x13
        have k13 := z_xk g_14 k13
        have ha := x13.k (k := 8) hT13 ha
        have k3 := x13.k (k := 4) hT13 k3
        have f11 := x13.t (k := 5) hT13 f11
        refine z_dup dX8_hear_58 rfl ?_
        refine z_bipush (v := 8) dX8_hear_59 (by decide) ?_
        refine z_wts (fun hT15 _ => ?_)
        refine z_cIv (n := 1) (Y1 := Y_X4_init) (st := [z_O _, z_I _, z_O _]) rfl (s_X4_init k13 hP) rfl rfl rfl ⟨z_dc_X4_init, ⟨(Nat.le_of_ble_eq_true rfl), (Nat.le_of_ble_eq_true rfl)⟩, (Nat.le_of_ble_eq_true rfl)⟩ rfl zw_700 zw_117 zw_6 zw_118 dX8_hear_61 (fun M_15 hP _ x15 => ?_)
        have ha := x15.k (k := 8) hT15 ha
        have k3 := x15.k (k := 4) hT15 k3
        have k13 := x15.k (k := 4) hT15 k13
        have f11 := x15.t (k := 5) hT15 f11
        obtain ⟨a17, e17, hP⟩ := hP
        have k17 := f11 a17 e17
        refine z_wts (fun hT16 _ => ?_)
        refine z_cVv (c := 5) (n := 2) (Y1 := Y_X5_putToClient) (st := []) e17 k17 z_cb5 (Nat.le_of_ble_eq_true rfl) rfl (s_X5_putToClient k17 (z_trn rfl k13) hP) rfl ⟨z_dc_X5_putToClient, ⟨(Nat.le_of_ble_eq_true rfl), (Nat.le_of_ble_eq_true rfl)⟩, (Nat.le_of_ble_eq_true rfl)⟩ rfl zw_745 zw_746 zw_747 zw_2 zw_748 dX8_hear_64 (fun M_16 hP _ x16 => ?_)
        have ha := x16.k (k := 8) hT16 ha
        have k3 := x16.k (k := 4) hT16 k3
        refine z_goto (tgt := 83) dX8_hear_67 (by decide) ?_
        exact z_retv rfl dX8_hear_83 hP
    · replace hP := hP.1 h5
      refine z_aload_n dX8_hear_31 rfl 0 rfl ?_
      refine z_pc (pc' := 32) rfl ?_
      refine z_aload_n dX8_hear_32 rfl 1 rfl ?_
      refine z_wts (fun hT18 _ => ?_)
      refine z_cVv (c := 8) (n := 1) (Y1 := Y_X8_hearHello) (st := []) rfl ha z_cb8 (Nat.le_of_ble_eq_true rfl) rfl (s_X8_hearHello ha (z_trn e3 k3) hP) rfl ⟨z_dc_X8_hearHello, ⟨(Nat.le_of_ble_eq_true rfl), (Nat.le_of_ble_eq_true rfl)⟩, (Nat.le_of_ble_eq_true rfl)⟩ rfl zw_889 zw_891 zp_6 zw_8 zw_892 dX8_hear_33 (fun M_18 hP _ x18 => ?_)
      have ha := x18.k (k := 8) hT18 ha
      have k3 := x18.k (k := 4) hT18 k3
      refine z_goto (tgt := 83) dX8_hear_36 (by decide) ?_
      exact z_retv rfl dX8_hear_83 hP
  · replace hP := hP.1 h2
    exact z_retv rfl dX8_hear_23 hP
set_option maxRecDepth 100000 in
set_option maxHeartbeats 4000000 in
theorem s_X8_hear {G : z_G} {M : z_Mem} {a : Nat} {p1 : Option Nat} {Post : z_Mem → Prop} (ha : z_ki M a = 9) (f_p1 : z_tr M p1 5) (hP : P_X8_hear a p1 M Post) : z_Mt G Y_X8_hear M [z_O (some a), z_O p1] (z_PV Post) := by
  refine z_ofV (by decide) (Nat.le_of_ble_eq_true rfl) ?_
  unfold P_X8_hear at hP
  refine z_sub (lv' := [(0, z_O (some a)), (1, z_O p1)]) [0, 1] rfl ?_
  refine z_aload_n dX8_hear_0 rfl 1 rfl ?_
  obtain ⟨a19, e19, hP⟩ := hP
  have k19 := f_p1 a19 e19
  refine z_getr (c := 4) (k := 3) (g := 515) (t := 7) z_cb4 (Nat.le_of_ble_eq_true rfl) (Nat.le_of_ble_eq_true rfl) rfl rfl zw_129 e19 k19 dX8_hear_1 (fun f20 => ?_)
  refine z_ifnull (tgt := 15) dX8_hear_4 (by decide) (fun h21 => ?_) (fun a21 e21 => ?_)
  · replace hP := hP.1 h21
    refine z_sub (lv' := [(0, z_O _), (1, z_O _)]) [0, 1] rfl ?_
    exact v_X8_hear_15  ha (z_trn e19 k19) hP
  · replace hP := hP.2 a21 e21
    have k21 := f20 a21 e21
    refine z_aload_n dX8_hear_7 rfl 1 rfl ?_
    refine z_getr (c := 4) (k := 3) (g := 515) (t := 7) z_cb4 (Nat.le_of_ble_eq_true rfl) (Nat.le_of_ble_eq_true rfl) rfl rfl zw_129 e19 k19 dX8_hear_8 (fun f22 => ?_)
    refine z_iconst (v := 2) dX8_hear_11 (by decide) ?_
    obtain ⟨a23, e23, hP⟩ := hP
    have k23 := f22 a23 e23
    refine z_puti (c := 6) (k := 11) (g := 779) z_cb6 (Nat.le_of_ble_eq_true rfl) (Nat.le_of_ble_eq_true rfl) (Nat.le_of_ble_eq_true rfl) rfl rfl rfl zw_1095 e23 k23 (Or.inl rfl) dX8_hear_12 ?_
    refine z_nm (fun M_24 g_24 => ?_)
    replace hP := hP M_24 g_24
    have q_24 := z_k1 g_24
    have ha := z_kk q_24 ha
    have k19 := z_kk q_24 k19
    refine z_sub (lv' := [(0, z_O _), (1, z_O _)]) [0, 1] rfl ?_
    exact v_X8_hear_15  ha (z_trn e19 k19) hP
set_option maxRecDepth 100000 in
def P_X8_hearAll_11 (a : Nat) (Post : z_Mem → Prop)  : Nat → Int32 → z_Mem → Prop
  | 0, _, _ => False
  | n + 1, x1, M => ((x1 ≤ 0 → Post M) ∧ (¬ x1 ≤ 0 → z_nn (z_fr M 1024 a) fun a3 => (z_nn (z_fr M 1024 a) fun a6 => (z_nn (z_fr M 642 a3) fun a9 => (P_X10_takeDue a9 (z_fi M 645 a6) M fun x_8 M_8 => (((x_8 = none → Post M_8) ∧ (∀ a10 : Nat, x_8 = some a10 → P_X8_hear a x_8 M_8 fun M_11 => (∀ x_12 : Int32, x_12 = x1 + (-1) → (P_X8_hearAll_11 a Post n x_12 M_11))))))))))
set_option maxRecDepth 100000 in
def P_X8_hearAll (a : Nat) (M : z_Mem) (Post : z_Mem → Prop) : Prop := z_nn (z_fr M 1024 a) fun a14 => (z_nn (z_fr M 642 a14) fun a16 => (∀ x_18 : Int32, x_18 = (z_fi M 1281 a16) → ((∃ n19 : Nat, P_X8_hearAll_11 a Post n19 x_18 M))))
set_option maxRecDepth 100000 in
set_option maxHeartbeats 4000000 in
theorem v_X8_hearAll_11 {G : z_G} {M0 : z_Mem} {a : Nat} {Post : z_Mem → Prop}   : ∀ (n : Nat) {x1 : Int32} {M : z_Mem}, (z_ki M a = 9) → P_X8_hearAll_11 a Post n x1 M → z_V G Y_X8_hearAll z_X0 M0 (z_QM G M0 (z_PV Post)) M 11 [(0, z_O (some a)), (1, z_I x1)] [] := by
  intro n
  induction n with
  | zero => intro x1 M ha hP; exact False.elim hP
  | succ n ih =>
    intro x1 M ha hP
    unfold P_X8_hearAll_11 at hP
    refine z_iload_n dX8_hearAll_11 rfl 1 rfl ?_
    refine z_if_le (tgt := 51) dX8_hearAll_12 (by decide) (fun h1 => ?_) (fun h1 => ?_)
    · replace hP := hP.1 h1
      exact z_retv rfl dX8_hearAll_51 hP
    · replace hP := hP.2 h1
      refine z_aload_n dX8_hearAll_15 rfl 0 rfl ?_
      refine z_getr (c := 8) (k := 0) (g := 1024) (t := 6) z_cb8 (Nat.le_of_ble_eq_true rfl) (Nat.le_of_ble_eq_true rfl) rfl rfl zw_238 rfl ha dX8_hearAll_16 (fun f2 => ?_)
      obtain ⟨a3, e3, hP⟩ := hP
      have k3 := f2 a3 e3
      refine z_getr (c := 5) (k := 2) (g := 642) (t := 11) z_cb5 (Nat.le_of_ble_eq_true rfl) (Nat.le_of_ble_eq_true rfl) rfl rfl zw_160 e3 k3 dX8_hearAll_19 (fun f4 => ?_)
      refine z_aload_n dX8_hearAll_22 rfl 0 rfl ?_
      refine z_getr (c := 8) (k := 0) (g := 1024) (t := 6) z_cb8 (Nat.le_of_ble_eq_true rfl) (Nat.le_of_ble_eq_true rfl) rfl rfl zw_238 rfl ha dX8_hearAll_23 (fun f5 => ?_)
      refine z_pc (pc' := 26) rfl ?_
      obtain ⟨a6, e6, hP⟩ := hP
      have k6 := f5 a6 e6
      refine z_geti (c := 5) (k := 5) (g := 645) z_cb5 (Nat.le_of_ble_eq_true rfl) (Nat.le_of_ble_eq_true rfl) rfl (Nat.le_of_ble_eq_true rfl) zw_165 e6 k6 dX8_hearAll_26 ?_
      obtain ⟨a9, e9, hP⟩ := hP
      have k9 := f4 a9 e9
      refine z_wts (fun hT8 _ => ?_)
      refine z_cVo (c := 10) (n := 1) (Y1 := Y_X10_takeDue) (st := []) e9 k9 z_cb10 (Nat.le_of_ble_eq_true rfl) rfl (s_X10_takeDue k9 hP) rfl ⟨z_dc_X10_takeDue, ⟨(Nat.le_of_ble_eq_true rfl), (Nat.le_of_ble_eq_true rfl)⟩, (Nat.le_of_ble_eq_true rfl)⟩ rfl zw_878 zw_879 zw_880 zw_4 zw_881 dX8_hearAll_29 (fun x_8 M_8 f8 hP _ x8 => ?_)
      have ha := x8.k (k := 8) hT8 ha
      refine z_astore_n (lv' := [(2, z_O _), (0, z_O _), (1, z_I _)]) dX8_hearAll_32 rfl (Nat.le_of_ble_eq_true rfl) rfl ?_
      refine z_aload_n dX8_hearAll_33 rfl 0 rfl ?_
      refine z_ifnonnull (tgt := 40) dX8_hearAll_34 (by decide) (fun h10 => ?_) (fun a10 e10 => ?_)
      · replace hP := hP.1 h10
        refine z_goto (tgt := 51) dX8_hearAll_37 (by decide) ?_
        exact z_retv rfl dX8_hearAll_51 hP
      · replace hP := hP.2 a10 e10
        have k10 := f8 a10 e10
        refine z_aload_n dX8_hearAll_40 rfl 1 rfl ?_
        refine z_aload_n dX8_hearAll_41 rfl 0 rfl ?_
        refine z_pc (pc' := 42) rfl ?_
        refine z_wts (fun hT11 _ => ?_)
        refine z_cVv (c := 8) (n := 1) (Y1 := Y_X8_hear) (st := []) rfl ha z_cb8 (Nat.le_of_ble_eq_true rfl) rfl (s_X8_hear ha (z_trn e10 k10) hP) rfl ⟨z_dc_X8_hear, ⟨(Nat.le_of_ble_eq_true rfl), (Nat.le_of_ble_eq_true rfl)⟩, (Nat.le_of_ble_eq_true rfl)⟩ rfl zw_885 zw_887 zp_5 zw_8 zw_888 dX8_hearAll_42 (fun M_11 hP _ x11 => ?_)
        have ha := x11.k (k := 8) hT11 ha
        have k10 := x11.k (k := 4) hT11 k10
        refine z_iincN (j := 2) (m := (-1)) (lv' := fun v => [(1, z_I v), (2, z_O _), (0, z_O _)]) dX8_hearAll_45 rfl (by decide) (Nat.le_of_ble_eq_true rfl) (fun _ => rfl) (fun x_12 y_12 => ?_)
        replace hP := hP x_12 y_12
        refine z_goto (tgt := 11) dX8_hearAll_48 (by decide) ?_
        refine z_sub (lv' := [(0, z_O _), (1, z_I _)]) [2, 0] rfl ?_
        exact ih ha hP
set_option maxRecDepth 100000 in
set_option maxHeartbeats 4000000 in
theorem s_X8_hearAll {G : z_G} {M : z_Mem} {a : Nat} {Post : z_Mem → Prop} (ha : z_ki M a = 9) (hP : P_X8_hearAll a M Post) : z_Mt G Y_X8_hearAll M [z_O (some a)] (z_PV Post) := by
  refine z_ofV (by decide) (Nat.le_of_ble_eq_true rfl) ?_
  unfold P_X8_hearAll at hP
  refine z_sub (lv' := [(0, z_O (some a))]) [0] rfl ?_
  refine z_aload_n dX8_hearAll_0 rfl 0 rfl ?_
  refine z_getr (c := 8) (k := 0) (g := 1024) (t := 6) z_cb8 (Nat.le_of_ble_eq_true rfl) (Nat.le_of_ble_eq_true rfl) rfl rfl zw_238 rfl ha dX8_hearAll_1 (fun f13 => ?_)
  obtain ⟨a14, e14, hP⟩ := hP
  have k14 := f13 a14 e14
  refine z_getr (c := 5) (k := 2) (g := 642) (t := 11) z_cb5 (Nat.le_of_ble_eq_true rfl) (Nat.le_of_ble_eq_true rfl) rfl rfl zw_160 e14 k14 dX8_hearAll_4 (fun f15 => ?_)
  obtain ⟨a16, e16, hP⟩ := hP
  have k16 := f15 a16 e16
  refine z_geti (c := 10) (k := 1) (g := 1281) z_cb10 (Nat.le_of_ble_eq_true rfl) (Nat.le_of_ble_eq_true rfl) rfl (Nat.le_of_ble_eq_true rfl) zw_107 e16 k16 dX8_hearAll_7 ?_
  refine z_topi (fun x_18 y_18 => ?_)
  replace hP := hP x_18 y_18
  refine z_istore_n (lv' := [(1, z_I _), (0, z_O _)]) dX8_hearAll_10 rfl (Nat.le_of_ble_eq_true rfl) rfl ?_
  obtain ⟨n19, hP⟩ := hP
  refine z_sub (lv' := [(0, z_O _), (1, z_I _)]) [1, 0] rfl ?_
  exact v_X8_hearAll_11  n19 ha hP
set_option maxRecDepth 100000 in
def P_X8_acknowledgeInTime (a : Nat) (M : z_Mem) (Post : z_Mem → Prop) : Prop := z_nn (z_fr M 1024 a) fun a2 => ((((z_fi M 645 a2) = (z_fi M 1037 a) → P_X8_acknowledge a M fun M_6 => (Post M_6)) ∧ (¬ (z_fi M 645 a2) = (z_fi M 1037 a) → z_nn (z_fr M 1024 a) fun a8 => (((((z_fi M 645 a8) - (z_fi M 645 a8) / 20 * 20) = 0 → P_X8_acknowledge a M fun M_11 => (Post M_11)) ∧ (¬ ((z_fi M 645 a8) - (z_fi M 645 a8) / 20 * 20) = 0 → Post M))))))
set_option maxRecDepth 100000 in
set_option maxHeartbeats 4000000 in
theorem s_X8_acknowledgeInTime {G : z_G} {M : z_Mem} {a : Nat} {Post : z_Mem → Prop} (ha : z_ki M a = 9) (hP : P_X8_acknowledgeInTime a M Post) : z_Mt G Y_X8_acknowledgeInTime M [z_O (some a)] (z_PV Post) := by
  refine z_ofV (by decide) (Nat.le_of_ble_eq_true rfl) ?_
  unfold P_X8_acknowledgeInTime at hP
  refine z_sub (lv' := [(0, z_O (some a))]) [0] rfl ?_
  refine z_aload_n dX8_acknowledgeInTime_0 rfl 0 rfl ?_
  refine z_getr (c := 8) (k := 0) (g := 1024) (t := 6) z_cb8 (Nat.le_of_ble_eq_true rfl) (Nat.le_of_ble_eq_true rfl) rfl rfl zw_238 rfl ha dX8_acknowledgeInTime_1 (fun f1 => ?_)
  obtain ⟨a2, e2, hP⟩ := hP
  have k2 := f1 a2 e2
  refine z_geti (c := 5) (k := 5) (g := 645) z_cb5 (Nat.le_of_ble_eq_true rfl) (Nat.le_of_ble_eq_true rfl) rfl (Nat.le_of_ble_eq_true rfl) zw_165 e2 k2 dX8_acknowledgeInTime_4 ?_
  refine z_aload_n dX8_acknowledgeInTime_7 rfl 0 rfl ?_
  refine z_geti (c := 8) (k := 13) (g := 1037) z_cb8 (Nat.le_of_ble_eq_true rfl) (Nat.le_of_ble_eq_true rfl) rfl (Nat.le_of_ble_eq_true rfl) zw_254 rfl ha dX8_acknowledgeInTime_8 ?_
  refine z_icmp_eq (tgt := 27) dX8_acknowledgeInTime_11 (by decide) (fun h5 => ?_) (fun h5 => ?_)
  · replace hP := hP.1 h5
    refine z_aload_n dX8_acknowledgeInTime_27 rfl 0 rfl ?_
    refine z_pc (pc' := 28) rfl ?_
    refine z_wts (fun hT6 _ => ?_)
    refine z_cVv (c := 8) (n := 0) (Y1 := Y_X8_acknowledge) (st := []) rfl ha z_cb8 (Nat.le_of_ble_eq_true rfl) rfl (s_X8_acknowledge ha hP) rfl ⟨z_dc_X8_acknowledge, ⟨(Nat.le_of_ble_eq_true rfl), (Nat.le_of_ble_eq_true rfl)⟩, (Nat.le_of_ble_eq_true rfl)⟩ rfl zw_695 zw_697 zp_1 zw_8 zw_698 dX8_acknowledgeInTime_28 (fun M_6 hP _ x6 => ?_)
    have ha := x6.k (k := 8) hT6 ha
    exact z_retv rfl dX8_acknowledgeInTime_31 hP
  · replace hP := hP.2 h5
    refine z_aload_n dX8_acknowledgeInTime_14 rfl 0 rfl ?_
    refine z_pc (pc' := 15) rfl ?_
    refine z_getr (c := 8) (k := 0) (g := 1024) (t := 6) z_cb8 (Nat.le_of_ble_eq_true rfl) (Nat.le_of_ble_eq_true rfl) rfl rfl zw_238 rfl ha dX8_acknowledgeInTime_15 (fun f7 => ?_)
    obtain ⟨a8, e8, hP⟩ := hP
    have k8 := f7 a8 e8
    refine z_geti (c := 5) (k := 5) (g := 645) z_cb5 (Nat.le_of_ble_eq_true rfl) (Nat.le_of_ble_eq_true rfl) rfl (Nat.le_of_ble_eq_true rfl) zw_165 e8 k8 dX8_acknowledgeInTime_18 ?_
    refine z_bipush (v := 20) dX8_acknowledgeInTime_21 (by decide) ?_
    refine z_irem dX8_acknowledgeInTime_23 (by decide) ?_
    refine z_if_ne (tgt := 31) dX8_acknowledgeInTime_24 (by decide) (fun h10 => ?_) (fun h10 => ?_)
    · replace hP := hP.2 h10
      exact z_retv rfl dX8_acknowledgeInTime_31 hP
    · replace hP := hP.1 h10
      refine z_aload_n dX8_acknowledgeInTime_27 rfl 0 rfl ?_
      refine z_wts (fun hT11 _ => ?_)
      refine z_cVv (c := 8) (n := 0) (Y1 := Y_X8_acknowledge) (st := []) rfl ha z_cb8 (Nat.le_of_ble_eq_true rfl) rfl (s_X8_acknowledge ha hP) rfl ⟨z_dc_X8_acknowledge, ⟨(Nat.le_of_ble_eq_true rfl), (Nat.le_of_ble_eq_true rfl)⟩, (Nat.le_of_ble_eq_true rfl)⟩ rfl zw_695 zw_697 zp_1 zw_8 zw_698 dX8_acknowledgeInTime_28 (fun M_11 hP _ x11 => ?_)
      have ha := x11.k (k := 8) hT11 ha
      refine z_pc (pc' := 31) rfl ?_
      exact z_retv rfl dX8_acknowledgeInTime_31 hP
set_option maxRecDepth 100000 in
def P_X9_init (a : Nat) (M : z_Mem) (Post : z_Mem → Prop) : Prop := ∀ M_1 : z_Mem, M_1 = z_sfi M 1156 a 40 → (z_room M_1 200 ∧ (∀ M_3 : z_Mem, M_3 = z_nwa M_1 21 200 → (∀ M_4 : z_Mem, M_4 = z_sfr M_3 1159 a (some (z_sz M_1)) → (z_room M_4 200 ∧ (∀ M_6 : z_Mem, M_6 = z_nwa M_4 20 200 → (∀ M_7 : z_Mem, M_7 = z_sfr M_6 1160 a (some (z_sz M_4)) → (z_room M_7 200 ∧ (∀ M_9 : z_Mem, M_9 = z_nwa M_7 21 200 → (∀ M_10 : z_Mem, M_10 = z_sfr M_9 1161 a (some (z_sz M_7)) → (Post M_10))))))))))
set_option maxRecDepth 100000 in
set_option maxHeartbeats 4000000 in
theorem s_X9_init {G : z_G} {M : z_Mem} {a : Nat} {Post : z_Mem → Prop} (ha : z_ki M a = 10) (hP : P_X9_init a M Post) : z_Mt G Y_X9_init M [z_O (some a)] (z_PV Post) := by
  refine z_ofV (by decide) (Nat.le_of_ble_eq_true rfl) ?_
  unfold P_X9_init at hP
  refine z_sub (lv' := [(0, z_O (some a))]) [0] rfl ?_
  refine z_aload_n dX9_init_0 rfl 0 rfl ?_
  refine z_objInit rfl zw_187 zw_28 zw_29 dX9_init_1 (Nat.le_of_ble_eq_true rfl) (Nat.le_of_ble_eq_true rfl) ?_
  refine z_aload_n dX9_init_4 rfl 0 rfl ?_
  refine z_bipush (v := 40) dX9_init_5 (by decide) ?_
  refine z_puti (c := 9) (k := 4) (g := 1156) z_cb9 (Nat.le_of_ble_eq_true rfl) (Nat.le_of_ble_eq_true rfl) (Nat.le_of_ble_eq_true rfl) rfl rfl rfl zw_198 rfl ha (Or.inl rfl) dX9_init_7 ?_
  refine z_nm (fun M_1 g_1 => ?_)
  replace hP := hP M_1 g_1
  have q_1 := z_k1 g_1
  have ha := z_kk q_1 ha
  refine z_aload_n dX9_init_10 rfl 0 rfl ?_
  refine z_pc (pc' := 11) rfl ?_
  refine z_sipush (v := 200) dX9_init_11 (by decide) ?_
  obtain ⟨r2, hP⟩ := hP
  refine z_wts (fun hT2 _ => ?_)
  refine z_newa (t := 21) (N := 200) (Or.inr (Or.inl ⟨rfl, rfl⟩)) zw_230 rfl (Nat.le_of_ble_eq_true rfl) r2 dX9_init_14 (fun x2 k2 => ?_)
  refine z_nm (fun M_3 g_3 => ?_)
  replace hP := hP M_3 g_3
  have x2 := z_xe g_3 x2
  have k2 := z_xk g_3 k2
  have ha := x2.k (k := 9) hT2 ha
  refine z_putr (c := 9) (k := 7) (g := 1159) (t := 21) z_cb9 (Nat.le_of_ble_eq_true rfl) (Nat.le_of_ble_eq_true rfl) rfl rfl rfl zw_206 rfl ha (z_trn rfl k2) (Or.inr ⟨rfl, rfl, rfl⟩) dX9_init_16 ?_
  refine z_nm (fun M_4 g_4 => ?_)
  replace hP := hP M_4 g_4
  have q_4 := z_k2 g_4
  have ha := z_kk q_4 ha
  refine z_aload_n dX9_init_19 rfl 0 rfl ?_
  refine z_sipush (v := 200) dX9_init_20 (by decide) ?_
  obtain ⟨r5, hP⟩ := hP
  refine z_wts (fun hT5 _ => ?_)
  refine z_newa (t := 20) (N := 200) (Or.inl ⟨rfl, rfl⟩) zw_231 rfl (Nat.le_of_ble_eq_true rfl) r5 dX9_init_23 (fun x5 k5 => ?_)
  refine z_nm (fun M_6 g_6 => ?_)
  replace hP := hP M_6 g_6
  have x5 := z_xe g_6 x5
  have k5 := z_xk g_6 k5
  have ha := x5.k (k := 9) hT5 ha
  refine z_pc (pc' := 25) rfl ?_
  refine z_putr (c := 9) (k := 8) (g := 1160) (t := 20) z_cb9 (Nat.le_of_ble_eq_true rfl) (Nat.le_of_ble_eq_true rfl) rfl rfl rfl zw_207 rfl ha (z_trn rfl k5) (Or.inr ⟨rfl, rfl, rfl⟩) dX9_init_25 ?_
  refine z_nm (fun M_7 g_7 => ?_)
  replace hP := hP M_7 g_7
  have q_7 := z_k2 g_7
  have ha := z_kk q_7 ha
  refine z_aload_n dX9_init_28 rfl 0 rfl ?_
  refine z_sipush (v := 200) dX9_init_29 (by decide) ?_
  obtain ⟨r8, hP⟩ := hP
  refine z_wts (fun hT8 _ => ?_)
  refine z_newa (t := 21) (N := 200) (Or.inr (Or.inl ⟨rfl, rfl⟩)) zw_230 rfl (Nat.le_of_ble_eq_true rfl) r8 dX9_init_32 (fun x8 k8 => ?_)
  refine z_nm (fun M_9 g_9 => ?_)
  replace hP := hP M_9 g_9
  have x8 := z_xe g_9 x8
  have k8 := z_xk g_9 k8
  have ha := x8.k (k := 9) hT8 ha
  refine z_putr (c := 9) (k := 9) (g := 1161) (t := 21) z_cb9 (Nat.le_of_ble_eq_true rfl) (Nat.le_of_ble_eq_true rfl) rfl rfl rfl zw_208 rfl ha (z_trn rfl k8) (Or.inr ⟨rfl, rfl, rfl⟩) dX9_init_34 ?_
  refine z_nm (fun M_10 g_10 => ?_)
  replace hP := hP M_10 g_10
  have q_10 := z_k2 g_10
  have ha := z_kk q_10 ha
  exact z_retv rfl dX9_init_37 hP
set_option maxRecDepth 100000 in
def P_X11_init_25 (a : Nat) (Post : z_Mem → Prop)  : Nat → Int32 → z_Mem → Prop
  | 0, _, _ => False
  | n + 1, x1, M => ((4 ≤ x1 → z_room M 16 ∧ (∀ M_3 : z_Mem, M_3 = z_new M 9 16 → (P_X8_init (z_sz M) (z_fr M_3 1408 a) (z_fr M_3 1409 a) M_3 fun M_6 => (∀ M_7 : z_Mem, M_7 = z_sfr M_6 1410 a (some (z_sz M)) → (z_room M_7 19 ∧ (∀ M_9 : z_Mem, M_9 = z_new M_7 2 19 → (P_X1_init (z_sz M_7) (z_fr M_9 1408 a) (z_fr M_9 1409 a) M_9 fun M_12 => (∀ M_13 : z_Mem, M_13 = z_sfr M_12 1411 a (some (z_sz M_7)) → (z_room M_13 200 ∧ (∀ M_15 : z_Mem, M_15 = z_nwa M_13 21 200 → (∀ M_16 : z_Mem, M_16 = z_sfr M_15 1412 a (some (z_sz M_13)) → (Post M_16)))))))))))) ∧ (¬ 4 ≤ x1 → z_room M 10 ∧ (∀ M_19 : z_Mem, M_19 = z_new M 10 10 → (P_X9_init (z_sz M) M_19 fun M_20 => (z_nn (z_fr M 1409 a) fun a21 => (vp_in x1 (z_ln M_20 a21) ∧ (∀ M_23 : z_Mem, M_23 = z_sar M_20 a21 ((x1 : Int32).toNatClampNeg) (some (z_sz M)) → (∀ x_24 : Int32, x_24 = x1 + 1 → (P_X11_init_25 a Post n x_24 M_23)))))))))
set_option maxRecDepth 100000 in
def P_X11_init (a : Nat) (M : z_Mem) (Post : z_Mem → Prop) : Prop := z_room M 6 ∧ (∀ M_26 : z_Mem, M_26 = z_new M 6 6 → (P_X5_init (z_sz M) M_26 fun M_27 => (∀ M_28 : z_Mem, M_28 = z_sfr M_27 1408 a (some (z_sz M)) → (z_room M_28 4 ∧ (∀ M_30 : z_Mem, M_30 = z_nwa M_28 24 4 → (∀ M_31 : z_Mem, M_31 = z_sfr M_30 1409 a (some (z_sz M_28)) → ((∃ n32 : Nat, P_X11_init_25 a Post n32 0 M_31))))))))
set_option maxRecDepth 100000 in
set_option maxHeartbeats 4000000 in
theorem v_X11_init_25 {G : z_G} {M0 : z_Mem} {a : Nat} {Post : z_Mem → Prop}   : ∀ (n : Nat) {x1 : Int32} {M : z_Mem}, (z_ki M a = 12) → P_X11_init_25 a Post n x1 M → z_V G Y_X11_init z_X0 M0 (z_QM G M0 (z_PV Post)) M 25 [(0, z_O (some a)), (1, z_I x1)] [] := by
  intro n
  induction n with
  | zero => intro x1 M ha hP; exact False.elim hP
  | succ n ih =>
    intro x1 M ha hP
    unfold P_X11_init_25 at hP
    refine z_iload_n dX11_init_25 rfl 1 rfl ?_
    refine z_iconst (v := 4) dX11_init_26 (by decide) ?_
    refine z_icmp_ge (tgt := 49) dX11_init_27 (by decide) (fun h1 => ?_) (fun h1 => ?_)
    · replace hP := hP.1 h1
      refine z_aload_n dX11_init_49 rfl 0 rfl ?_
      obtain ⟨r2, hP⟩ := hP
      refine z_wts (fun hT2 _ => ?_)
      refine z_newo (c := 8) z_cb8 (Nat.le_of_ble_eq_true rfl) rfl z_df8 zw_232 zw_233 zw_8 r2 dX11_init_50 (fun x2 k2 => ?_)
      refine z_nm (fun M_3 g_3 => ?_)
      replace hP := hP M_3 g_3
      have x2 := z_xe g_3 x2
      have k2 := z_xk g_3 k2
      have ha := x2.k (k := 11) hT2 ha
      refine z_dup dX11_init_53 rfl ?_
      refine z_aload_n dX11_init_54 rfl 0 rfl ?_
      refine z_pc (pc' := 55) rfl ?_
      refine z_getr (c := 11) (k := 0) (g := 1408) (t := 6) z_cb11 (Nat.le_of_ble_eq_true rfl) (Nat.le_of_ble_eq_true rfl) rfl rfl zw_489 rfl ha dX11_init_55 (fun f4 => ?_)
      refine z_aload_n dX11_init_58 rfl 0 rfl ?_
      refine z_getr (c := 11) (k := 1) (g := 1409) (t := 24) z_cb11 (Nat.le_of_ble_eq_true rfl) (Nat.le_of_ble_eq_true rfl) rfl rfl zw_490 rfl ha dX11_init_59 (fun f5 => ?_)
      refine z_wts (fun hT6 _ => ?_)
      refine z_cIv (n := 2) (Y1 := Y_X8_init) (st := [z_O _, z_O _]) rfl (s_X8_init k2 f4 f5 hP) rfl rfl rfl ⟨z_dc_X8_init, ⟨(Nat.le_of_ble_eq_true rfl), (Nat.le_of_ble_eq_true rfl)⟩, (Nat.le_of_ble_eq_true rfl)⟩ rfl zw_234 zw_235 zw_8 zw_236 dX11_init_62 (fun M_6 hP _ x6 => ?_)
      have ha := x6.k (k := 11) hT6 ha
      have k2 := x6.k (k := 8) hT6 k2
      refine z_putr (c := 11) (k := 2) (g := 1410) (t := 9) z_cb11 (Nat.le_of_ble_eq_true rfl) (Nat.le_of_ble_eq_true rfl) rfl rfl rfl zw_491 rfl ha (z_trn rfl k2) (Or.inr ⟨rfl, rfl, rfl⟩) dX11_init_65 ?_
      refine z_nm (fun M_7 g_7 => ?_)
      replace hP := hP M_7 g_7
      have q_7 := z_k2 g_7
      have ha := z_kk q_7 ha
      refine z_aload_n dX11_init_68 rfl 0 rfl ?_
      refine z_pc (pc' := 69) rfl ?_
      obtain ⟨r8, hP⟩ := hP
      refine z_wts (fun hT8 _ => ?_)
      refine z_newo (c := 1) z_cb1 (Nat.le_of_ble_eq_true rfl) rfl z_df1 zw_291 zw_292 zw_9 r8 dX11_init_69 (fun x8 k8 => ?_)
      refine z_nm (fun M_9 g_9 => ?_)
      replace hP := hP M_9 g_9
      have x8 := z_xe g_9 x8
      have k8 := z_xk g_9 k8
      have ha := x8.k (k := 11) hT8 ha
      refine z_dup dX11_init_72 rfl ?_
      refine z_aload_n dX11_init_73 rfl 0 rfl ?_
      refine z_getr (c := 11) (k := 0) (g := 1408) (t := 6) z_cb11 (Nat.le_of_ble_eq_true rfl) (Nat.le_of_ble_eq_true rfl) rfl rfl zw_489 rfl ha dX11_init_74 (fun f10 => ?_)
      refine z_aload_n dX11_init_77 rfl 0 rfl ?_
      refine z_getr (c := 11) (k := 1) (g := 1409) (t := 24) z_cb11 (Nat.le_of_ble_eq_true rfl) (Nat.le_of_ble_eq_true rfl) rfl rfl zw_490 rfl ha dX11_init_78 (fun f11 => ?_)
      refine z_pc (pc' := 81) rfl ?_
      refine z_wts (fun hT12 _ => ?_)
      refine z_cIv (n := 2) (Y1 := Y_X1_init) (st := [z_O _, z_O _]) rfl (s_X1_init k8 f10 f11 hP) rfl rfl rfl ⟨z_dc_X1_init, ⟨(Nat.le_of_ble_eq_true rfl), (Nat.le_of_ble_eq_true rfl)⟩, (Nat.le_of_ble_eq_true rfl)⟩ rfl zw_293 zw_294 zw_9 zw_295 dX11_init_81 (fun M_12 hP _ x12 => ?_)
      have ha := x12.k (k := 11) hT12 ha
      have k8 := x12.k (k := 1) hT12 k8
      refine z_putr (c := 11) (k := 3) (g := 1411) (t := 2) z_cb11 (Nat.le_of_ble_eq_true rfl) (Nat.le_of_ble_eq_true rfl) rfl rfl rfl zw_492 rfl ha (z_trn rfl k8) (Or.inr ⟨rfl, rfl, rfl⟩) dX11_init_84 ?_
      refine z_nm (fun M_13 g_13 => ?_)
      replace hP := hP M_13 g_13
      have q_13 := z_k2 g_13
      have ha := z_kk q_13 ha
      refine z_aload_n dX11_init_87 rfl 0 rfl ?_
      refine z_sipush (v := 200) dX11_init_88 (by decide) ?_
      obtain ⟨r14, hP⟩ := hP
      refine z_wts (fun hT14 _ => ?_)
      refine z_newa (t := 21) (N := 200) (Or.inr (Or.inl ⟨rfl, rfl⟩)) zw_230 rfl (Nat.le_of_ble_eq_true rfl) r14 dX11_init_91 (fun x14 k14 => ?_)
      refine z_nm (fun M_15 g_15 => ?_)
      replace hP := hP M_15 g_15
      have x14 := z_xe g_15 x14
      have k14 := z_xk g_15 k14
      have ha := x14.k (k := 11) hT14 ha
      refine z_putr (c := 11) (k := 4) (g := 1412) (t := 21) z_cb11 (Nat.le_of_ble_eq_true rfl) (Nat.le_of_ble_eq_true rfl) rfl rfl rfl zw_493 rfl ha (z_trn rfl k14) (Or.inr ⟨rfl, rfl, rfl⟩) dX11_init_93 ?_
      refine z_nm (fun M_16 g_16 => ?_)
      replace hP := hP M_16 g_16
      have q_16 := z_k2 g_16
      have ha := z_kk q_16 ha
      refine z_pc (pc' := 96) rfl ?_
      exact z_retv rfl dX11_init_96 hP
    · replace hP := hP.2 h1
      refine z_aload_n dX11_init_30 rfl 0 rfl ?_
      refine z_getr (c := 11) (k := 1) (g := 1409) (t := 24) z_cb11 (Nat.le_of_ble_eq_true rfl) (Nat.le_of_ble_eq_true rfl) rfl rfl zw_490 rfl ha dX11_init_31 (fun f17 => ?_)
      refine z_iload_n dX11_init_34 rfl 1 rfl ?_
      obtain ⟨r18, hP⟩ := hP
      refine z_wts (fun hT18 _ => ?_)
      refine z_newo (c := 9) z_cb9 (Nat.le_of_ble_eq_true rfl) rfl z_df9 zw_181 zw_183 zw_7 r18 dX11_init_35 (fun x18 k18 => ?_)
      refine z_nm (fun M_19 g_19 => ?_)
      replace hP := hP M_19 g_19
      have x18 := z_xe g_19 x18
      have k18 := z_xk g_19 k18
      have ha := x18.k (k := 11) hT18 ha
      have f17 := x18.t (k := 23) hT18 f17
      refine z_pc (pc' := 38) rfl ?_
      refine z_dup dX11_init_38 rfl ?_
      refine z_wts (fun hT20 _ => ?_)
      refine z_cINv (n := 0) (host := "Tidewater") (Y1 := Y_X9_init) (st := [z_O _, z_I _, z_O _]) rfl (s_X9_init k18 hP) rfl rfl rfl ⟨z_dc_X9_init, ⟨(Nat.le_of_ble_eq_true rfl), (Nat.le_of_ble_eq_true rfl)⟩, (Nat.le_of_ble_eq_true rfl)⟩ rfl (List.mem_of_getElem? (i := 2) rfl) zw_185 zw_7 zw_186 dX11_init_39 (fun M_20 hP _ x20 => ?_)
      have ha := x20.k (k := 11) hT20 ha
      have k18 := x20.k (k := 9) hT20 k18
      have f17 := x20.t (k := 23) hT20 f17
      obtain ⟨a21, e21, hP⟩ := hP
      have k21 := f17 a21 e21
      obtain ⟨i22, hP⟩ := hP
      refine z_aast (t := 24) e21 k21 (Nat.le_of_ble_eq_true rfl) (Nat.le_of_ble_eq_true rfl) i22 (z_trn rfl k18) dX11_init_42 ?_
      refine z_nm (fun M_23 g_23 => ?_)
      replace hP := hP M_23 g_23
      have q_23 := z_k4 g_23
      have ha := z_kk q_23 ha
      refine z_iincN (j := 1) (m := 1) (lv' := fun v => [(1, z_I v), (0, z_O _)]) dX11_init_43 rfl (by decide) (Nat.le_of_ble_eq_true rfl) (fun _ => rfl) (fun x_24 y_24 => ?_)
      replace hP := hP x_24 y_24
      refine z_goto (tgt := 25) dX11_init_46 (by decide) ?_
      refine z_sub (lv' := [(0, z_O _), (1, z_I _)]) [1, 0] rfl ?_
      exact ih ha hP
set_option maxRecDepth 100000 in
set_option maxHeartbeats 4000000 in
theorem s_X11_init {G : z_G} {M : z_Mem} {a : Nat} {Post : z_Mem → Prop} (ha : z_ki M a = 12) (hP : P_X11_init a M Post) : z_Mt G Y_X11_init M [z_O (some a)] (z_PV Post) := by
  refine z_ofV (by decide) (Nat.le_of_ble_eq_true rfl) ?_
  unfold P_X11_init at hP
  refine z_sub (lv' := [(0, z_O (some a))]) [0] rfl ?_
  refine z_aload_n dX11_init_0 rfl 0 rfl ?_
  refine z_objInit rfl zw_27 zw_28 zw_29 dX11_init_1 (Nat.le_of_ble_eq_true rfl) (Nat.le_of_ble_eq_true rfl) ?_
  refine z_aload_n dX11_init_4 rfl 0 rfl ?_
  obtain ⟨r25, hP⟩ := hP
  refine z_wts (fun hT25 _ => ?_)
  refine z_newo (c := 5) z_cb5 (Nat.le_of_ble_eq_true rfl) rfl z_df5 zw_30 zw_31 zw_2 r25 dX11_init_5 (fun x25 k25 => ?_)
  refine z_nm (fun M_26 g_26 => ?_)
  replace hP := hP M_26 g_26
  have x25 := z_xe g_26 x25
  have k25 := z_xk g_26 k25
  have ha := x25.k (k := 11) hT25 ha
  refine z_dup dX11_init_8 rfl ?_
  refine z_wts (fun hT27 _ => ?_)
  refine z_cINv (n := 0) (host := "Tidewater") (Y1 := Y_X5_init) (st := [z_O _, z_O _]) rfl (s_X5_init k25 hP) rfl rfl rfl ⟨z_dc_X5_init, ⟨(Nat.le_of_ble_eq_true rfl), (Nat.le_of_ble_eq_true rfl)⟩, (Nat.le_of_ble_eq_true rfl)⟩ rfl (List.mem_of_getElem? (i := 0) rfl) zw_33 zw_2 zw_34 dX11_init_9 (fun M_27 hP _ x27 => ?_)
  have ha := x27.k (k := 11) hT27 ha
  have k25 := x27.k (k := 5) hT27 k25
  refine z_pc (pc' := 12) rfl ?_
  refine z_putr (c := 11) (k := 0) (g := 1408) (t := 6) z_cb11 (Nat.le_of_ble_eq_true rfl) (Nat.le_of_ble_eq_true rfl) rfl rfl rfl zw_489 rfl ha (z_trn rfl k25) (Or.inr ⟨rfl, rfl, rfl⟩) dX11_init_12 ?_
  refine z_nm (fun M_28 g_28 => ?_)
  replace hP := hP M_28 g_28
  have q_28 := z_k2 g_28
  have ha := z_kk q_28 ha
  refine z_aload_n dX11_init_15 rfl 0 rfl ?_
  refine z_iconst (v := 4) dX11_init_16 (by decide) ?_
  obtain ⟨r29, hP⟩ := hP
  refine z_wts (fun hT29 _ => ?_)
  refine z_newq (t := 24) (tt := 4) (N := 4) (Nat.le_of_ble_eq_true rfl) (Nat.le_of_ble_eq_true rfl) rfl (fun _ => rfl) zw_181 rfl (Nat.le_of_ble_eq_true rfl) r29 dX11_init_17 (fun x29 k29 => ?_)
  refine z_nm (fun M_30 g_30 => ?_)
  replace hP := hP M_30 g_30
  have x29 := z_xe g_30 x29
  have k29 := z_xk g_30 k29
  have ha := x29.k (k := 11) hT29 ha
  refine z_putr (c := 11) (k := 1) (g := 1409) (t := 24) z_cb11 (Nat.le_of_ble_eq_true rfl) (Nat.le_of_ble_eq_true rfl) rfl rfl rfl zw_490 rfl ha (z_trn rfl k29) (Or.inr ⟨rfl, rfl, rfl⟩) dX11_init_20 ?_
  refine z_nm (fun M_31 g_31 => ?_)
  replace hP := hP M_31 g_31
  have q_31 := z_k2 g_31
  have ha := z_kk q_31 ha
  refine z_iconst (v := 0) dX11_init_23 (by decide) ?_
  refine z_pc (pc' := 24) rfl ?_
  refine z_istore_n (lv' := [(1, z_I _), (0, z_O _)]) dX11_init_24 rfl (Nat.le_of_ble_eq_true rfl) rfl ?_
  obtain ⟨n32, hP⟩ := hP
  refine z_sub (lv' := [(0, z_O _), (1, z_I _)]) [1, 0] rfl ?_
  exact v_X11_init_25  n32 ha hP
set_option maxRecDepth 100000 in
def P_X11_setCookies (a : Nat) (p1 : Int32) (M : z_Mem) (Post : Int32 → z_Mem → Prop) : Prop := z_nn (z_fr M 1410 a) fun a2 => (∀ x_4 : Int32, x_4 = (z_fi M 1027 a2) → (z_nn (z_fr M 1410 a) fun a6 => (∀ M_7 : z_Mem, M_7 = z_sfi M 1027 a6 p1 → (Post x_4 M_7))))
set_option maxRecDepth 100000 in
set_option maxHeartbeats 4000000 in
theorem s_X11_setCookies {G : z_G} {M : z_Mem} {a : Nat} {p1 : Int32} {Post : Int32 → z_Mem → Prop} (ha : z_ki M a = 12) (f_p1 : p1 = 0 ∨ p1 = 1) (hP : P_X11_setCookies a p1 M Post) : z_Mt G Y_X11_setCookies M [z_O (some a), z_I p1] (z_PB Post) := by
  refine z_ofV (by decide) (Nat.le_of_ble_eq_true rfl) ?_
  unfold P_X11_setCookies at hP
  refine z_sub (lv' := [(0, z_O (some a)), (1, z_I p1)]) [0, 1] rfl ?_
  refine z_aload_n dX11_setCookies_0 rfl 0 rfl ?_
  refine z_getr (c := 11) (k := 2) (g := 1410) (t := 9) z_cb11 (Nat.le_of_ble_eq_true rfl) (Nat.le_of_ble_eq_true rfl) rfl rfl zw_491 rfl ha dX11_setCookies_1 (fun f1 => ?_)
  obtain ⟨a2, e2, hP⟩ := hP
  have k2 := f1 a2 e2
  refine z_getb (c := 8) (k := 3) (g := 1027) z_cb8 (Nat.le_of_ble_eq_true rfl) (Nat.le_of_ble_eq_true rfl) rfl rfl zw_243 e2 k2 dX11_setCookies_4 (fun b3 => ?_)
  refine z_topi (fun x_4 y_4 => ?_)
  replace hP := hP x_4 y_4
  refine z_istore_n (lv' := [(2, z_I _), (0, z_O _), (1, z_I _)]) dX11_setCookies_7 rfl (Nat.le_of_ble_eq_true rfl) rfl ?_
  refine z_aload_n dX11_setCookies_8 rfl 1 rfl ?_
  refine z_getr (c := 11) (k := 2) (g := 1410) (t := 9) z_cb11 (Nat.le_of_ble_eq_true rfl) (Nat.le_of_ble_eq_true rfl) rfl rfl zw_491 rfl ha dX11_setCookies_9 (fun f5 => ?_)
  refine z_pc (pc' := 12) rfl ?_
  refine z_iload_n dX11_setCookies_12 rfl 2 rfl ?_
  obtain ⟨a6, e6, hP⟩ := hP
  have k6 := f5 a6 e6
  refine z_putb (c := 8) (k := 3) (g := 1027) z_cb8 (Nat.le_of_ble_eq_true rfl) (Nat.le_of_ble_eq_true rfl) (Nat.le_of_ble_eq_true rfl) rfl rfl rfl zw_243 e6 k6 f_p1 (Or.inl rfl) dX11_setCookies_13 ?_
  refine z_nm (fun M_7 g_7 => ?_)
  replace hP := hP M_7 g_7
  have q_7 := z_k1 g_7
  have ha := z_kk q_7 ha
  refine z_iload_n dX11_setCookies_16 rfl 0 rfl ?_
  exact z_retb rfl (z_bt y_4 b3) dX11_setCookies_17 hP
set_option maxRecDepth 100000 in
def P_X11_loseState (a : Nat) (M : z_Mem) (Post : z_Mem → Prop) : Prop := z_nn (z_fr M 1410 a) fun a3 => (P_X8_forget a3 M fun M_2 => (Post M_2))
set_option maxRecDepth 100000 in
set_option maxHeartbeats 4000000 in
theorem s_X11_loseState {G : z_G} {M : z_Mem} {a : Nat} {Post : z_Mem → Prop} (ha : z_ki M a = 12) (hP : P_X11_loseState a M Post) : z_Mt G Y_X11_loseState M [z_O (some a)] (z_PV Post) := by
  refine z_ofV (by decide) (Nat.le_of_ble_eq_true rfl) ?_
  unfold P_X11_loseState at hP
  refine z_sub (lv' := [(0, z_O (some a))]) [0] rfl ?_
  refine z_aload_n dX11_loseState_0 rfl 0 rfl ?_
  refine z_getr (c := 11) (k := 2) (g := 1410) (t := 9) z_cb11 (Nat.le_of_ble_eq_true rfl) (Nat.le_of_ble_eq_true rfl) rfl rfl zw_491 rfl ha dX11_loseState_1 (fun f1 => ?_)
  obtain ⟨a3, e3, hP⟩ := hP
  have k3 := f1 a3 e3
  refine z_wts (fun hT2 _ => ?_)
  refine z_cVv (c := 8) (n := 0) (Y1 := Y_X8_forget) (st := []) e3 k3 z_cb8 (Nat.le_of_ble_eq_true rfl) rfl (s_X8_forget k3 hP) rfl ⟨z_dc_X8_forget, ⟨(Nat.le_of_ble_eq_true rfl), (Nat.le_of_ble_eq_true rfl)⟩, (Nat.le_of_ble_eq_true rfl)⟩ rfl zw_513 zw_514 zw_515 zw_8 zw_516 dX11_loseState_4 (fun M_2 hP _ x2 => ?_)
  have ha := x2.k (k := 11) hT2 ha
  exact z_retv rfl dX11_loseState_7 hP
set_option maxRecDepth 100000 in
def P_X11_now (a : Nat) (M : z_Mem) (Post : Int32 → z_Mem → Prop) : Prop := z_nn (z_fr M 1408 a) fun a2 => (Post (z_fi M 645 a2) M)
set_option maxRecDepth 100000 in
set_option maxHeartbeats 4000000 in
theorem s_X11_now {G : z_G} {M : z_Mem} {a : Nat} {Post : Int32 → z_Mem → Prop} (ha : z_ki M a = 12) (hP : P_X11_now a M Post) : z_Mt G Y_X11_now M [z_O (some a)] (z_PI Post) := by
  refine z_ofV (by decide) (Nat.le_of_ble_eq_true rfl) ?_
  unfold P_X11_now at hP
  refine z_sub (lv' := [(0, z_O (some a))]) [0] rfl ?_
  refine z_aload_n dX11_now_0 rfl 0 rfl ?_
  refine z_getr (c := 11) (k := 0) (g := 1408) (t := 6) z_cb11 (Nat.le_of_ble_eq_true rfl) (Nat.le_of_ble_eq_true rfl) rfl rfl zw_489 rfl ha dX11_now_1 (fun f1 => ?_)
  obtain ⟨a2, e2, hP⟩ := hP
  have k2 := f1 a2 e2
  refine z_geti (c := 5) (k := 5) (g := 645) z_cb5 (Nat.le_of_ble_eq_true rfl) (Nat.le_of_ble_eq_true rfl) rfl (Nat.le_of_ble_eq_true rfl) zw_167 e2 k2 dX11_now_4 ?_
  exact z_reti rfl dX11_now_7 hP
set_option maxRecDepth 100000 in
def P_X11_asNumber (p1 : Int32) (M : z_Mem) (Post : Int32 → z_Mem → Prop) : Prop := ((p1 = 0 → Post 0 M) ∧ (¬ p1 = 0 → Post 1 M))
set_option maxRecDepth 100000 in
set_option maxHeartbeats 4000000 in
theorem s_X11_asNumber {G : z_G} {M : z_Mem} {p1 : Int32} {Post : Int32 → z_Mem → Prop} (f_p1 : p1 = 0 ∨ p1 = 1) (hP : P_X11_asNumber p1 M Post) : z_Mt G Y_X11_asNumber M [z_I p1] (z_PI Post) := by
  refine z_ofV (by decide) (Nat.le_of_ble_eq_true rfl) ?_
  unfold P_X11_asNumber at hP
  refine z_sub (lv' := [(0, z_I p1)]) [0] rfl ?_
  refine z_iload_n dX11_asNumber_0 rfl 0 rfl ?_
  refine z_if_eq (tgt := 8) dX11_asNumber_1 (by decide) (fun h1 => ?_) (fun h1 => ?_)
  · replace hP := hP.1 h1
    refine z_iconst (v := 0) dX11_asNumber_8 (by decide) ?_
    exact z_reti rfl dX11_asNumber_9 hP
  · replace hP := hP.2 h1
    refine z_iconst (v := 1) dX11_asNumber_4 (by decide) ?_
    refine z_goto (tgt := 9) dX11_asNumber_5 (by decide) ?_
    exact z_reti rfl dX11_asNumber_9 hP
set_option maxRecDepth 100000 in
def P_X11_credit (a : Nat) (M : z_Mem) (Post : Int32 → z_Mem → Prop) : Prop := z_nn (z_fr M 1411 a) fun a2 => (Post (z_fi M 144 a2) M)
set_option maxRecDepth 100000 in
set_option maxHeartbeats 4000000 in
theorem s_X11_credit {G : z_G} {M : z_Mem} {a : Nat} {Post : Int32 → z_Mem → Prop} (ha : z_ki M a = 12) (hP : P_X11_credit a M Post) : z_Mt G Y_X11_credit M [z_O (some a)] (z_PI Post) := by
  refine z_ofV (by decide) (Nat.le_of_ble_eq_true rfl) ?_
  unfold P_X11_credit at hP
  refine z_sub (lv' := [(0, z_O (some a))]) [0] rfl ?_
  refine z_aload_n dX11_credit_0 rfl 0 rfl ?_
  refine z_getr (c := 11) (k := 3) (g := 1411) (t := 2) z_cb11 (Nat.le_of_ble_eq_true rfl) (Nat.le_of_ble_eq_true rfl) rfl rfl zw_492 rfl ha dX11_credit_1 (fun f1 => ?_)
  obtain ⟨a2, e2, hP⟩ := hP
  have k2 := f1 a2 e2
  refine z_geti (c := 1) (k := 16) (g := 144) z_cb1 (Nat.le_of_ble_eq_true rfl) (Nat.le_of_ble_eq_true rfl) rfl (Nat.le_of_ble_eq_true rfl) zw_447 e2 k2 dX11_credit_4 ?_
  exact z_reti rfl dX11_credit_7 hP
set_option maxRecDepth 100000 in
def P_X11_packets (a : Nat) (M : z_Mem) (Post : Int32 → z_Mem → Prop) : Prop := z_nn (z_fr M 1411 a) fun a2 => (Post (z_fi M 133 a2) M)
set_option maxRecDepth 100000 in
set_option maxHeartbeats 4000000 in
theorem s_X11_packets {G : z_G} {M : z_Mem} {a : Nat} {Post : Int32 → z_Mem → Prop} (ha : z_ki M a = 12) (hP : P_X11_packets a M Post) : z_Mt G Y_X11_packets M [z_O (some a)] (z_PI Post) := by
  refine z_ofV (by decide) (Nat.le_of_ble_eq_true rfl) ?_
  unfold P_X11_packets at hP
  refine z_sub (lv' := [(0, z_O (some a))]) [0] rfl ?_
  refine z_aload_n dX11_packets_0 rfl 0 rfl ?_
  refine z_getr (c := 11) (k := 3) (g := 1411) (t := 2) z_cb11 (Nat.le_of_ble_eq_true rfl) (Nat.le_of_ble_eq_true rfl) rfl rfl zw_492 rfl ha dX11_packets_1 (fun f1 => ?_)
  obtain ⟨a2, e2, hP⟩ := hP
  have k2 := f1 a2 e2
  refine z_geti (c := 1) (k := 5) (g := 133) z_cb1 (Nat.le_of_ble_eq_true rfl) (Nat.le_of_ble_eq_true rfl) rfl (Nat.le_of_ble_eq_true rfl) zw_431 e2 k2 dX11_packets_4 ?_
  exact z_reti rfl dX11_packets_7 hP
