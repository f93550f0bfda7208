def P_X2_init (a : Nat) (M : z_Mem) (Post : z_Mem → Prop) : Prop := ∀ M_1 : z_Mem, M_1 = z_sfi M 256 a 0 → (∀ M_2 : z_Mem, M_2 = z_sfi M_1 257 a 160 → (∀ M_3 : z_Mem, M_3 = z_sfi M_2 258 a 999999 → (∀ M_4 : z_Mem, M_4 = z_sfi M_3 260 a 160 → (∀ M_5 : z_Mem, M_5 = z_sfi M_4 261 a 999999 → (∀ M_6 : z_Mem, M_6 = z_sfi M_5 264 a (-1) → (z_room M_6 8 ∧ (∀ M_8 : z_Mem, M_8 = z_nwa M_6 20 8 → (∀ M_9 : z_Mem, M_9 = z_sfr M_8 265 a (some (z_sz M_6)) → (Post M_9)))))))))
set_option maxRecDepth 100000 in
set_option maxHeartbeats 4000000 in
theorem s_X2_init {G : z_G} {M : z_Mem} {a : Nat} {Post : z_Mem → Prop} (ha : z_ki M a = 3) (hP : P_X2_init a M Post) : z_Mt G Y_X2_init M [z_O (some a)] (z_PV Post) := by
  refine z_ofV (by decide) (Nat.le_of_ble_eq_true rfl) ?_
  unfold P_X2_init at hP
  refine z_sub (lv' := [(0, z_O (some a))]) [0] rfl ?_
  refine z_aload_n dX2_init_0 rfl 0 rfl ?_
  refine z_objInit rfl zw_308 zw_28 zw_29 dX2_init_1 (Nat.le_of_ble_eq_true rfl) (Nat.le_of_ble_eq_true rfl) ?_
  refine z_aload_n dX2_init_4 rfl 0 rfl ?_
  refine z_iconst (v := 0) dX2_init_5 (by decide) ?_
  replace hP := hP _ rfl
  refine z_puti (c := 2) (k := 0) (g := 256) z_cb2 (Nat.le_of_ble_eq_true rfl) (Nat.le_of_ble_eq_true rfl) (Nat.le_of_ble_eq_true rfl) rfl rfl rfl zw_310 rfl ha (Or.inl rfl) dX2_init_6 ?_
  refine z_aload_n dX2_init_9 rfl 0 rfl ?_
  refine z_sipush (v := 160) dX2_init_10 (by decide) ?_
  replace hP := hP _ rfl
  refine z_puti (c := 2) (k := 1) (g := 257) z_cb2 (Nat.le_of_ble_eq_true rfl) (Nat.le_of_ble_eq_true rfl) (Nat.le_of_ble_eq_true rfl) rfl rfl rfl zw_312 rfl ha (Or.inl rfl) dX2_init_13 ?_
  refine z_aload_n dX2_init_16 rfl 0 rfl ?_
  refine z_ldc zw_309 dX2_init_17 ?_
  replace hP := hP _ rfl
  refine z_puti (c := 2) (k := 2) (g := 258) z_cb2 (Nat.le_of_ble_eq_true rfl) (Nat.le_of_ble_eq_true rfl) (Nat.le_of_ble_eq_true rfl) rfl rfl rfl zw_315 rfl ha (Or.inl rfl) dX2_init_19 ?_
  refine z_aload_n dX2_init_22 rfl 0 rfl ?_
  refine z_sipush (v := 160) dX2_init_23 (by decide) ?_
  replace hP := hP _ rfl
  refine z_puti (c := 2) (k := 4) (g := 260) z_cb2 (Nat.le_of_ble_eq_true rfl) (Nat.le_of_ble_eq_true rfl) (Nat.le_of_ble_eq_true rfl) rfl rfl rfl zw_319 rfl ha (Or.inl rfl) dX2_init_26 ?_
  refine z_aload_n dX2_init_29 rfl 0 rfl ?_
  refine z_ldc zw_309 dX2_init_30 ?_
  replace hP := hP _ rfl
  refine z_puti (c := 2) (k := 5) (g := 261) z_cb2 (Nat.le_of_ble_eq_true rfl) (Nat.le_of_ble_eq_true rfl) (Nat.le_of_ble_eq_true rfl) rfl rfl rfl zw_320 rfl ha (Or.inl rfl) dX2_init_32 ?_
  refine z_aload_n dX2_init_35 rfl 0 rfl ?_
  refine z_iconst (v := (-1)) dX2_init_36 (by decide) ?_
  replace hP := hP _ rfl
  refine z_puti (c := 2) (k := 8) (g := 264) z_cb2 (Nat.le_of_ble_eq_true rfl) (Nat.le_of_ble_eq_true rfl) (Nat.le_of_ble_eq_true rfl) rfl rfl rfl zw_323 rfl ha (Or.inl rfl) dX2_init_37 ?_
  refine z_aload_n dX2_init_40 rfl 0 rfl ?_
  refine z_bipush (v := 8) dX2_init_41 (by decide) ?_
  obtain ⟨r7, hP⟩ := hP
  replace hP := hP _ rfl
  refine z_wts (fun hT7 _ => ?_)
  refine z_newa (t := 20) (N := 8) (Or.inl ⟨rfl, rfl⟩) zw_231 rfl (Nat.le_of_ble_eq_true rfl) r7 dX2_init_43 (fun x7 k7 => ?_)
  have ha := x7.k (k := 2) hT7 ha
  replace hP := hP _ rfl
  refine z_putr (c := 2) (k := 9) (g := 265) (t := 20) z_cb2 (Nat.le_of_ble_eq_true rfl) (Nat.le_of_ble_eq_true rfl) rfl rfl rfl zw_324 rfl ha (z_trn rfl k7) (Or.inr ⟨rfl, rfl, rfl⟩) dX2_init_45 ?_
  exact z_retv rfl dX2_init_48 hP
def P_X4_init (a : Nat) (p1 : Int32) (M : z_Mem) (Post : z_Mem → Prop) : Prop := ∀ M_1 : z_Mem, M_1 = z_sfi M 517 a (-1) → (∀ M_2 : z_Mem, M_2 = z_sfi M_1 512 a p1 → (Post M_2))
set_option maxRecDepth 100000 in
set_option maxHeartbeats 4000000 in
theorem s_X4_init {G : z_G} {M : z_Mem} {a : Nat} {p1 : Int32} {Post : z_Mem → Prop} (ha : z_ki M a = 5) (hP : P_X4_init a p1 M Post) : z_Mt G Y_X4_init M [z_O (some a), z_I p1] (z_PV Post) := by
  refine z_ofV (by decide) (Nat.le_of_ble_eq_true rfl) ?_
  unfold P_X4_init at hP
  refine z_sub (lv' := [(0, z_O (some a)), (1, z_I p1)]) [0, 1] rfl ?_
  refine z_aload_n dX4_init_0 rfl 0 rfl ?_
  refine z_objInit rfl zw_119 zw_28 zw_29 dX4_init_1 (Nat.le_of_ble_eq_true rfl) (Nat.le_of_ble_eq_true rfl) ?_
  refine z_aload_n dX4_init_4 rfl 0 rfl ?_
  refine z_iconst (v := (-1)) dX4_init_5 (by decide) ?_
  replace hP := hP _ rfl
  refine z_puti (c := 4) (k := 5) (g := 517) z_cb4 (Nat.le_of_ble_eq_true rfl) (Nat.le_of_ble_eq_true rfl) (Nat.le_of_ble_eq_true rfl) rfl rfl rfl zw_133 rfl ha (Or.inl rfl) dX4_init_6 ?_
  refine z_aload_n dX4_init_9 rfl 0 rfl ?_
  refine z_iload_n dX4_init_10 rfl 1 rfl ?_
  replace hP := hP _ rfl
  refine z_puti (c := 4) (k := 0) (g := 512) z_cb4 (Nat.le_of_ble_eq_true rfl) (Nat.le_of_ble_eq_true rfl) (Nat.le_of_ble_eq_true rfl) rfl rfl rfl zw_120 rfl ha (Or.inr ⟨rfl, rfl, rfl⟩) dX4_init_11 ?_
  exact z_retv rfl dX4_init_14 hP
def P_X3_hasRoom (a : Nat) (M : z_Mem) (Post : Int32 → z_Mem → Prop) : Prop := (((z_fi M 386 a) ≤ (z_fi M 395 a) → Post 0 M) ∧ (¬ (z_fi M 386 a) ≤ (z_fi M 395 a) → ((30 ≤ (z_fi M 395 a) → Post 0 M) ∧ (¬ 30 ≤ (z_fi M 395 a) → Post 1 M))))
set_option maxRecDepth 100000 in
set_option maxHeartbeats 4000000 in
theorem s_X3_hasRoom {G : z_G} {M : z_Mem} {a : Nat} {Post : Int32 → z_Mem → Prop} (ha : z_ki M a = 4) (hP : P_X3_hasRoom a M Post) : z_Mt G Y_X3_hasRoom M [z_O (some a)] (z_PB Post) := by
  refine z_ofV (by decide) (Nat.le_of_ble_eq_true rfl) ?_
  unfold P_X3_hasRoom at hP
  refine z_sub (lv' := [(0, z_O (some a))]) [0] rfl ?_
  refine z_aload_n dX3_hasRoom_0 rfl 0 rfl ?_
  refine z_geti (c := 3) (k := 11) (g := 395) z_cb3 (Nat.le_of_ble_eq_true rfl) (Nat.le_of_ble_eq_true rfl) rfl (Nat.le_of_ble_eq_true rfl) zw_68 rfl ha dX3_hasRoom_1 ?_
  refine z_aload_n dX3_hasRoom_4 rfl 0 rfl ?_
  refine z_geti (c := 3) (k := 2) (g := 386) z_cb3 (Nat.le_of_ble_eq_true rfl) (Nat.le_of_ble_eq_true rfl) rfl (Nat.le_of_ble_eq_true rfl) zw_50 rfl ha dX3_hasRoom_5 ?_
  refine z_icmp_ge (tgt := 24) dX3_hasRoom_8 (by decide) (fun h3 => ?_) (fun h3 => ?_)
  · replace hP := hP.1 h3
    refine z_iconst (v := 0) dX3_hasRoom_24 (by decide) ?_
    exact z_retb rfl (Or.inl rfl) dX3_hasRoom_25 hP
  · replace hP := hP.2 h3
    refine z_aload_n dX3_hasRoom_11 rfl 0 rfl ?_
    refine z_geti (c := 3) (k := 11) (g := 395) z_cb3 (Nat.le_of_ble_eq_true rfl) (Nat.le_of_ble_eq_true rfl) rfl (Nat.le_of_ble_eq_true rfl) zw_68 rfl ha dX3_hasRoom_12 ?_
    refine z_bipush (v := 30) dX3_hasRoom_15 (by decide) ?_
    refine z_icmp_ge (tgt := 24) dX3_hasRoom_17 (by decide) (fun h5 => ?_) (fun h5 => ?_)
    · replace hP := hP.1 h5
      refine z_iconst (v := 0) dX3_hasRoom_24 (by decide) ?_
      exact z_retb rfl (Or.inl rfl) dX3_hasRoom_25 hP
    · replace hP := hP.2 h5
      refine z_iconst (v := 1) dX3_hasRoom_20 (by decide) ?_
      refine z_goto (tgt := 25) dX3_hasRoom_21 (by decide) ?_
      exact z_retb rfl (Or.inr rfl) dX3_hasRoom_25 hP
def P_X3_letsToServer (a : Nat) (M : z_Mem) (Post : Int32 → z_Mem → Prop) : Prop := (((z_fi M 388 a) = 0 → Post 0 M) ∧ (¬ (z_fi M 388 a) = 0 → (((z_fi M 389 a) ≤ 0 → P_X3_hasRoom a M fun x_5 M_5 => (Post x_5 M_5)) ∧ (¬ (z_fi M 389 a) ≤ 0 → ∀ M_7 : z_Mem, M_7 = z_sfi M 389 a ((z_fi M 389 a) - 1) → (Post 0 M_7)))))
set_option maxRecDepth 100000 in
set_option maxHeartbeats 4000000 in
theorem s_X3_letsToServer {G : z_G} {M : z_Mem} {a : Nat} {Post : Int32 → z_Mem → Prop} (ha : z_ki M a = 4) (hP : P_X3_letsToServer a M Post) : z_Mt G Y_X3_letsToServer M [z_O (some a)] (z_PB Post) := by
  refine z_ofV (by decide) (Nat.le_of_ble_eq_true rfl) ?_
  unfold P_X3_letsToServer at hP
  refine z_sub (lv' := [(0, z_O (some a))]) [0] rfl ?_
  refine z_aload_n dX3_letsToServer_0 rfl 0 rfl ?_
  refine z_getb (c := 3) (k := 4) (g := 388) z_cb3 (Nat.le_of_ble_eq_true rfl) (Nat.le_of_ble_eq_true rfl) rfl rfl zw_55 rfl ha dX3_letsToServer_1 (fun b1 => ?_)
  refine z_if_ne (tgt := 9) dX3_letsToServer_4 (by decide) (fun h2 => ?_) (fun h2 => ?_)
  · replace hP := hP.2 h2
    refine z_aload_n dX3_letsToServer_9 rfl 0 rfl ?_
    refine z_geti (c := 3) (k := 5) (g := 389) z_cb3 (Nat.le_of_ble_eq_true rfl) (Nat.le_of_ble_eq_true rfl) rfl (Nat.le_of_ble_eq_true rfl) zw_57 rfl ha dX3_letsToServer_10 ?_
    refine z_if_le (tgt := 28) dX3_letsToServer_13 (by decide) (fun h4 => ?_) (fun h4 => ?_)
    · replace hP := hP.1 h4
      refine z_aload_n dX3_letsToServer_28 rfl 0 rfl ?_
      refine z_wts (fun hT5 _ => ?_)
      refine z_cVb (c := 3) (n := 0) (st := []) rfl ha z_cb3 (Nat.le_of_ble_eq_true rfl) rfl (s_X3_hasRoom ha hP) rfl ⟨z_dc_X3_hasRoom, ⟨(Nat.le_of_ble_eq_true rfl), (Nat.le_of_ble_eq_true rfl)⟩, (Nat.le_of_ble_eq_true rfl)⟩ rfl zw_802 zw_669 zw_670 zw_3 zw_671 dX3_letsToServer_29 (fun x_5 M_5 b5 hP _ x5 => ?_)
      have ha := x5.k (k := 3) hT5 ha
      exact z_retb rfl b5 dX3_letsToServer_32 hP
    · replace hP := hP.2 h4
      refine z_aload_n dX3_letsToServer_16 rfl 0 rfl ?_
      refine z_dup dX3_letsToServer_17 rfl ?_
      refine z_geti (c := 3) (k := 5) (g := 389) z_cb3 (Nat.le_of_ble_eq_true rfl) (Nat.le_of_ble_eq_true rfl) rfl (Nat.le_of_ble_eq_true rfl) zw_57 rfl ha dX3_letsToServer_18 ?_
      refine z_iconst (v := 1) dX3_letsToServer_21 (by decide) ?_
      refine z_isub dX3_letsToServer_22 ?_
      replace hP := hP _ rfl
      refine z_puti (c := 3) (k := 5) (g := 389) z_cb3 (Nat.le_of_ble_eq_true rfl) (Nat.le_of_ble_eq_true rfl) (Nat.le_of_ble_eq_true rfl) rfl rfl rfl zw_57 rfl ha (Or.inl rfl) dX3_letsToServer_23 ?_
      refine z_iconst (v := 0) dX3_letsToServer_26 (by decide) ?_
      exact z_retb rfl (Or.inl rfl) dX3_letsToServer_27 hP
  · replace hP := hP.1 h2
    refine z_iconst (v := 0) dX3_letsToServer_7 (by decide) ?_
    exact z_retb rfl (Or.inl rfl) dX3_letsToServer_8 hP
def P_X9_isLost (a : Nat) (p1 : Int32) (M : z_Mem) (Post : Int32 → z_Mem → Prop) : Prop := ((p1 < 0 → Post 0 M) ∧ (¬ p1 < 0 → (((z_fi M 1153 a) ≤ p1 → Post 0 M) ∧ (¬ (z_fi M 1153 a) ≤ p1 → ((200 ≤ p1 → Post 0 M) ∧ (¬ 200 ≤ p1 → z_nn (z_fr M 1159 a) fun a6 => (vp_in p1 (z_ln M a6) ∧ ((((z_ai M a6 ((p1 : Int32).toNatClampNeg)) = 0 → z_nn (z_fr M 1160 a) fun a10 => (vp_in p1 (z_ln M a10) ∧ ((((z_ai M a10 ((p1 : Int32).toNatClampNeg)) = 0 → Post 1 M) ∧ (¬ (z_ai M a10 ((p1 : Int32).toNatClampNeg)) = 0 → Post 0 M))))) ∧ (¬ (z_ai M a6 ((p1 : Int32).toNatClampNeg)) = 0 → Post 0 M))))))))))
set_option maxRecDepth 100000 in
set_option maxHeartbeats 4000000 in
theorem s_X9_isLost {G : z_G} {M : z_Mem} {a : Nat} {p1 : Int32} {Post : Int32 → z_Mem → Prop} (ha : z_ki M a = 10) (hP : P_X9_isLost a p1 M Post) : z_Mt G Y_X9_isLost M [z_O (some a), z_I p1] (z_PB Post) := by
  refine z_ofV (by decide) (Nat.le_of_ble_eq_true rfl) ?_
  unfold P_X9_isLost at hP
  refine z_sub (lv' := [(0, z_O (some a)), (1, z_I p1)]) [0, 1] rfl ?_
  refine z_iload_n dX9_isLost_0 rfl 1 rfl ?_
  refine z_if_lt (tgt := 41) dX9_isLost_1 (by decide) (fun h1 => ?_) (fun h1 => ?_)
  · replace hP := hP.1 h1
    refine z_iconst (v := 0) dX9_isLost_41 (by decide) ?_
    exact z_retb rfl (Or.inl rfl) dX9_isLost_42 hP
  · replace hP := hP.2 h1
    refine z_iload_n dX9_isLost_4 rfl 1 rfl ?_
    refine z_aload_n dX9_isLost_5 rfl 0 rfl ?_
    refine z_geti (c := 9) (k := 1) (g := 1153) z_cb9 (Nat.le_of_ble_eq_true rfl) (Nat.le_of_ble_eq_true rfl) rfl (Nat.le_of_ble_eq_true rfl) zw_190 rfl ha dX9_isLost_6 ?_
    refine z_icmp_ge (tgt := 41) dX9_isLost_9 (by decide) (fun h3 => ?_) (fun h3 => ?_)
    · replace hP := hP.1 h3
      refine z_iconst (v := 0) dX9_isLost_41 (by decide) ?_
      exact z_retb rfl (Or.inl rfl) dX9_isLost_42 hP
    · replace hP := hP.2 h3
      refine z_iload_n dX9_isLost_12 rfl 1 rfl ?_
      refine z_sipush (v := 200) dX9_isLost_13 (by decide) ?_
      refine z_icmp_ge (tgt := 41) dX9_isLost_16 (by decide) (fun h4 => ?_) (fun h4 => ?_)
      · replace hP := hP.1 h4
        refine z_iconst (v := 0) dX9_isLost_41 (by decide) ?_
        exact z_retb rfl (Or.inl rfl) dX9_isLost_42 hP
      · replace hP := hP.2 h4
        refine z_aload_n dX9_isLost_19 rfl 0 rfl ?_
        refine z_getr (c := 9) (k := 7) (g := 1159) (t := 21) z_cb9 (Nat.le_of_ble_eq_true rfl) (Nat.le_of_ble_eq_true rfl) rfl rfl zw_206 rfl ha dX9_isLost_20 (fun f5 => ?_)
        refine z_iload_n dX9_isLost_23 rfl 1 rfl ?_
        obtain ⟨a6, e6, hP⟩ := hP
        have k6 := f5 a6 e6
        obtain ⟨i7, hP⟩ := hP
        refine z_zald e6 k6 i7 dX9_isLost_24 (fun b7 => ?_)
        refine z_if_ne (tgt := 41) dX9_isLost_25 (by decide) (fun h8 => ?_) (fun h8 => ?_)
        · replace hP := hP.2 h8
          refine z_iconst (v := 0) dX9_isLost_41 (by decide) ?_
          exact z_retb rfl (Or.inl rfl) dX9_isLost_42 hP
        · replace hP := hP.1 h8
          refine z_aload_n dX9_isLost_28 rfl 0 rfl ?_
          refine z_getr (c := 9) (k := 8) (g := 1160) (t := 20) z_cb9 (Nat.le_of_ble_eq_true rfl) (Nat.le_of_ble_eq_true rfl) rfl rfl zw_207 rfl ha dX9_isLost_29 (fun f9 => ?_)
          refine z_iload_n dX9_isLost_32 rfl 1 rfl ?_
          obtain ⟨a10, e10, hP⟩ := hP
          have k10 := f9 a10 e10
          obtain ⟨i11, hP⟩ := hP
          refine z_iald e10 k10 i11 dX9_isLost_33 ?_
          refine z_if_ne (tgt := 41) dX9_isLost_34 (by decide) (fun h12 => ?_) (fun h12 => ?_)
          · replace hP := hP.2 h12
            refine z_iconst (v := 0) dX9_isLost_41 (by decide) ?_
            exact z_retb rfl (Or.inl rfl) dX9_isLost_42 hP
          · replace hP := hP.1 h12
            refine z_iconst (v := 1) dX9_isLost_37 (by decide) ?_
            refine z_goto (tgt := 42) dX9_isLost_38 (by decide) ?_
            exact z_retb rfl (Or.inr rfl) dX9_isLost_42 hP
def P_X9_lowestLost_2 (a : Nat) (Post : Int32 → z_Mem → Prop)  : Nat → Int32 → z_Mem → Prop
  | 0, _, _ => False
  | n + 1, x1, M => ((200 ≤ x1 → Post x1 M) ∧ (¬ 200 ≤ x1 → P_X9_isLost a x1 M fun x_2 M_2 => (((x_2 = 0 → ∀ x_4 : Int32, x_4 = x1 + 1 → (P_X9_lowestLost_2 a Post n x_4 M_2)) ∧ (¬ x_2 = 0 → Post x1 M_2)))))
def P_X9_lowestLost (a : Nat) (M : z_Mem) (Post : Int32 → z_Mem → Prop) : Prop := (∃ n5 : Nat, P_X9_lowestLost_2 a Post n5 0 M)
set_option maxRecDepth 100000 in
set_option maxHeartbeats 4000000 in
theorem v_X9_lowestLost_2 {G : z_G} {M0 : z_Mem} {a : Nat} {Post : Int32 → z_Mem → Prop}   : ∀ (n : Nat) {x1 : Int32} {M : z_Mem}, (z_ki M a = 10) → P_X9_lowestLost_2 a Post n x1 M → z_V G Y_X9_lowestLost z_X0 M0 (z_QM G M0 (z_PI Post)) M 2 [(0, z_O (some a)), (1, z_I x1)] [] := by
  intro n
  induction n with
  | zero => intro x1 M ha hP; exact False.elim hP
  | succ n ih =>
    intro x1 M ha hP
    unfold P_X9_lowestLost_2 at hP
    refine z_iload_n dX9_lowestLost_2 rfl 1 rfl ?_
    refine z_sipush (v := 200) dX9_lowestLost_3 (by decide) ?_
    refine z_icmp_ge (tgt := 23) dX9_lowestLost_6 (by decide) (fun h1 => ?_) (fun h1 => ?_)
    · replace hP := hP.1 h1
      refine z_iload_n dX9_lowestLost_23 rfl 1 rfl ?_
      exact z_reti rfl dX9_lowestLost_24 hP
    · replace hP := hP.2 h1
      refine z_aload_n dX9_lowestLost_9 rfl 0 rfl ?_
      refine z_iload_n dX9_lowestLost_10 rfl 1 rfl ?_
      refine z_wts (fun hT2 _ => ?_)
      refine z_cVb (c := 9) (n := 1) (st := []) rfl ha z_cb9 (Nat.le_of_ble_eq_true rfl) rfl (s_X9_isLost ha hP) rfl ⟨z_dc_X9_isLost, ⟨(Nat.le_of_ble_eq_true rfl), (Nat.le_of_ble_eq_true rfl)⟩, (Nat.le_of_ble_eq_true rfl)⟩ rfl zw_951 zw_952 zw_953 zw_7 zw_954 dX9_lowestLost_11 (fun x_2 M_2 b2 hP _ x2 => ?_)
      have ha := x2.k (k := 9) hT2 ha
      refine z_if_ne (tgt := 23) dX9_lowestLost_14 (by decide) (fun h3 => ?_) (fun h3 => ?_)
      · replace hP := hP.2 h3
        refine z_iload_n dX9_lowestLost_23 rfl 1 rfl ?_
        exact z_reti rfl dX9_lowestLost_24 hP
      · replace hP := hP.1 h3
        replace hP := hP _ rfl
        refine z_iincL (j := 1) (m := 1) (lv' := [(1, z_I _), (0, z_O _)]) dX9_lowestLost_17 rfl (by decide) (Nat.le_of_ble_eq_true rfl) rfl ?_
        refine z_goto (tgt := 2) dX9_lowestLost_20 (by decide) ?_
        refine z_sub (lv' := [(0, z_O _), (1, z_I _)]) [1, 0] rfl ?_
        exact ih ha hP
set_option maxRecDepth 100000 in
set_option maxHeartbeats 4000000 in
theorem s_X9_lowestLost {G : z_G} {M : z_Mem} {a : Nat} {Post : Int32 → z_Mem → Prop} (ha : z_ki M a = 10) (hP : P_X9_lowestLost a M Post) : z_Mt G Y_X9_lowestLost M [z_O (some a)] (z_PI Post) := by
  refine z_ofV (by decide) (Nat.le_of_ble_eq_true rfl) ?_
  unfold P_X9_lowestLost at hP
  refine z_sub (lv' := [(0, z_O (some a))]) [0] rfl ?_
  refine z_iconst (v := 0) dX9_lowestLost_0 (by decide) ?_
  refine z_istore_n (lv' := [(1, z_I _), (0, z_O _)]) dX9_lowestLost_1 rfl (Nat.le_of_ble_eq_true rfl) rfl ?_
  obtain ⟨n5, hP⟩ := hP
  refine z_sub (lv' := [(0, z_O _), (1, z_I _)]) [1, 0] rfl ?_
  exact v_X9_lowestLost_2  n5 ha hP
