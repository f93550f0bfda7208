/-! ===== THE REFERENCE: an ACK is put; a window grows ===== -/
section RFA
variable {n t s q z : Nat} {M0 M M1 M2 : z_Mem}
theorem t_X12_hears_80 {x1 x4 : Int32} {Post : z_Mem → Prop} (J : rf_J n t (s + 1) q z M0 M) (h_x1 : 0 ≤ x1.toInt ∧ x1.toInt ≤ 1) (h_x4 : -1 ≤ x4.toInt ∧ x4.toInt ≤ 9) (k : ∀ M1, rf_J n t s q z M0 M1 → Post M1) : P_X12_hears_80 (n + 40) Post x1 x4 M := by
  intro M13 e13
  have J13 := w_sfi J e13 (by decide +kernel)
  have T0 : (0 : Int32).toInt = 0 := rfl
  have f106 : ∀ (v : Int32), (¬ v = 0 → 0 ≤ x4.toInt) → P_X12_hears_106 (n + 40) Post x1 x4 (some (n + 40)) v M13 := fun v hv => z_nn_of rfl (by
    intro M6 e6
    have J6 := w_sfi J13 e6 (by decide +kernel)
    refine And.intro (fun _ => t_X12_hears_124 J6 h_x1 k) (fun c => z_nn_of (s_1565_40 J6.1) ?_)
    have hx := hv (fun e => c (by rw [e6, rf_ef]; exact e))
    refine And.intro (vp_of (L := 10) (s_l62 J6.1) hx (by omega)) ?_
    intro M12 e12
    exact t_X12_hears_124 (w_sai J6 e12 (by decide +kernel)) h_x1 k)
  refine And.intro (fun _ => f106 0 (fun h => absurd rfl h)) (fun c => z_nn_of (s_1565_40 J13.1) ?_)
  have c' := i_nlt c rfl T0
  exact And.intro (vp_of (L := 10) (s_l62 J13.1) (by omega) (by omega)) (And.intro (fun _ => f106 1 (fun _ => by omega)) (fun _ => f106 0 (fun h => absurd rfl h)))
theorem t_ak119 {T : Nat} {x1 sv : Int32} {Post : z_Mem → Prop} (hT : T < 3600) (hx1 : x1.toInt = 15 * T) (k : ∀ M1, z_fi M1 1562 (n + 40) = sv → rf_J n t s q z M0 M1 → Post M1) : ∀ (m : Nat) (x4 x5 : Int32) (M : z_Mem), (4 - x5.toInt).toNat < m → 0 ≤ x5.toInt → (z_fi M 1561 (n + 40)).toInt = T → 0 ≤ (z_fi M 1575 (n + 40)).toInt → z_fi M 1562 (n + 40) = sv → rf_J n t (s + 1) (q + 1) z M0 M → P_X12_acknowledges_119 (n + 40) Post m x1 x4 x5 M := by
  have T4 : (4 : Int32).toInt = 4 := rfl
  have T14 : (x1 + 14).toInt = 15 * T + 14 := i_addE hx1 (show (14 : Int32).toInt = 14 from rfl) (by omega) (by omega)
  have T10 : (x1 + 10).toInt = 15 * T + 10 := i_addE hx1 (show (10 : Int32).toInt = 10 from rfl) (by omega) (by omega)
  have N14 : (x1 + 14).toNatClampNeg = 15 * T + 14 := i_nat (by rw [T14]; omega)
  intro m
  induction m with
  | zero => intro x4 x5 M h; omega
  | succ m ih =>
    intro x4 x5 M hm h0 ht hd hP J
    refine And.intro (fun _ => z_nn_of (s_1560_40 J.1) (And.intro (vp_of (L := 54000) (s_l61 J.1) (by omega) (by omega)) ?_)) (fun c => ?_)
    · intro M21 e21
      have J21 := w_61 J e21 (by rw [N14]; omega) (by rw [N14]; omega) (by rw [N14]; omega)
      have f21 : z_fi M21 = z_fi M := by rw [e21]; rfl
      intro M23 e23
      have tv : (z_fi M21 1561 (n + 40) + 1).toInt = (z_fi M21 1561 (n + 40)).toInt + 1 := i_addE rfl (show (1 : Int32).toInt = 1 from rfl) (by rw [f21]; omega) (by rw [f21]; omega)
      have J23 := w_1561 J21 e23 tv
      have v23 : (z_fi M23 1561 (n + 40)).toInt = T + 1 := by rw [e23, rf_ef, tv, f21, ht]
      have d23 : z_fi M23 1575 (n + 40) = z_fi M 1575 (n + 40) := by rw [e23, rf_nf (by decide), f21]
      refine z_nn_of (s_1629_40 J23.1) (And.intro (vp_of (L := 6) (s_l106 J23.1) (by decide) (by decide)) (And.intro (vp_of (L := 6) (s_l106 J23.1) (by decide) (by decide)) ?_))
      intro M28 e28
      have J28 := w_sai J23 e28 (by decide +kernel)
      intro M29 e29
      have J29 := w_sfi J28 e29 (by decide +kernel)
      intro M30 e30
      have J30 := w_sfi J29 e30 (by decide +kernel)
      have v30 : z_fi M30 1561 (n + 40) = z_fi M23 1561 (n + 40) := by rw [e30, rf_nf (by decide), e29, rf_nf (by decide), e28, zq_fi_sai]
      have d30 : z_fi M30 1575 (n + 40) = z_fi M 1575 (n + 40) := by rw [e30, rf_nf (by decide), e29, rf_nf (by decide), e28, zq_fi_sai, d23]
      have u30 : (z_fi M30 1561 (n + 40) - 1).toInt = T := by
        rw [i_subE (a := (T : Int) + 1) (b := 1) (by rw [v30, v23]) rfl (by omega) (by omega)]; omega
      have s30 : z_fi M30 1562 (n + 40) = sv := by rw [e30, rf_nf (by decide), e29, rf_nf (by decide), e28, zq_fi_sai, e23, rf_nf (by decide), f21]; exact hP
      have b30 := f_1575 J30
      exact t_X12_answers J30 (by rw [d30] at b30 ⊢; omega) (by rw [u30]; omega) (fun M33 p33 J33 => k _ (p33.trans s30) J33)
    · have c' := i_nle c T4 rfl
      have ti : ((x1 + 10) + x5).toInt = 15 * T + 10 + x5.toInt := i_addE T10 rfl (by omega) (by omega)
      obtain ⟨r, hr⟩ : ∃ r : Nat, x5.toInt = r := ⟨x5.toInt.toNat, by omega⟩
      have Ni : ((x1 + 10) + x5).toNatClampNeg = 15 * T + (10 + r) := i_nat (by rw [ti, hr]; omega)
      refine z_nn_of (s_1571_40 J.1) (And.intro (vp_of (L := 4) (s_l65 J.1) h0 (by omega)) (z_nn_of (s_1560_40 J.1) (And.intro (vp_of (L := 54000) (s_l61 J.1) (by omega) (by omega)) ?_)))
      intro M40 e40
      have J40 := w_61 J e40 (by rw [Ni]; omega) (by rw [Ni]; omega) (by rw [Ni]; omega)
      refine z_nn_of (s_1571_40 J40.1) (And.intro (vp_of (L := 4) (s_l65 J40.1) h0 (by omega)) ?_)
      intro y _ w ew
      have t1 := i_add1 (x := x5) (by omega) (by omega)
      have f40 : z_fi M40 = z_fi M := by rw [e40]; rfl
      refine ih y w M40 (by rw [ew, t1]; omega) (by rw [ew, t1]; omega) (by rw [f40]; exact ht) (by rw [f40]; exact hd) (by rw [f40]; exact hP) J40
theorem t_ak92 {T : Nat} {x1 x2 sv : Int32} {Post : z_Mem → Prop} (J : rf_J n t (s + 1) (q + 1) z M0 M) (hT : T < 3600) (ht : (z_fi M 1561 (n + 40)).toInt = T) (hx1 : x1.toInt = 15 * T) (h2 : 0 ≤ x2.toInt ∧ x2.toInt ≤ 4) (hm : 0 < (z_fi M 1576 (n + 40)).toInt → 0 < x2.toInt) (hd : 0 ≤ (z_fi M 1575 (n + 40)).toInt) (hP : z_fi M 1562 (n + 40) = sv) (k : ∀ M1, z_fi M1 1562 (n + 40) = sv → rf_J n t s q z M0 M1 → Post M1) : P_X12_acknowledges_92 (n + 40) Post x1 x2 M := by
  have N0 : x1.toNatClampNeg = 15 * T := i_nat (by rw [hx1]; omega)
  have T9 : (x1 + 9).toInt = 15 * T + 9 := i_addE hx1 (show (9 : Int32).toInt = 9 from rfl) (by omega) (by omega)
  have N9 : (x1 + 9).toNatClampNeg = 15 * T + 9 := i_nat (by rw [T9]; omega)
  refine z_nn_of (s_1560_40 J.1) (And.intro (vp_of (L := 54000) (s_l61 J.1) (by omega) (by omega)) ?_)
  intro M49 e49
  have S49 : y_S n M49 := by rw [e49]; exact S_sai J.1
  have f49 : z_fi M49 = z_fi M := by rw [e49]; rfl
  refine z_nn_of (s_1560_40 S49) (And.intro (vp_of (L := 54000) (s_l61 S49) (by omega) (by omega)) ?_)
  intro M54 e54
  have J54 := w_61two (T := T) J e49 e54 N0 N9 h2 (by rw [f49]; exact hm)
  have f54 : z_fi M54 = z_fi M := by rw [e54]; exact f49
  exact ⟨5, t_ak119 hT hx1 k 5 100 0 M54 (by decide) (by decide) (by rw [f54]; exact ht) (by rw [f54]; exact hd) (by rw [f54]; exact hP) J54⟩
theorem i_pos2 {x1 x2 c : Int32} {T r cc : Nat} (hx1 : x1.toInt = 15 * T) (hc : c.toInt = cc) (hr : x2.toInt = r) (hT : T < 3600) (hr3 : r ≤ 3) (hcc : cc ≤ 2) : ((x1 + c) + (2 * x2)).toInt = ((15 * T + (cc + 2 * r) : Nat) : Int) := by
  rw [i_addE (i_addE hx1 hc (by omega) (by omega)) (i_mulE (show (2 : Int32).toInt = 2 from rfl) hr (by omega) (by omega)) (by omega) (by omega)]
  omega
theorem t_ak56 {T r : Nat} {x1 x2 x3 x4 i1 i2 : Int32} {Post : z_Mem → Prop} {K : Int32 → Int32 → Int32 → z_Mem → Prop} (J : rf_J n t (s + 1) (q + 1) z M0 M) (e1 : i1 = (x1 + 1) + (2 * x2)) (e2 : i2 = (x1 + 2) + (2 * x2)) (n1 : i1.toInt = ((15 * T + (1 + 2 * r) : Nat) : Int)) (n2 : i2.toInt = ((15 * T + (2 + 2 * r) : Nat) : Int)) (hr : x2.toInt = r) (hr3 : r ≤ 3) (hT : T < 3600) (ht : (z_fi M 1561 (n + 40)).toInt = T) (h0 : 0 ≤ x3.toInt) (h1 : x3.toInt ≤ x4.toInt) (h4 : x4.toInt ≤ 399) (k : ∀ y w M1, y.toInt = x2.toInt + 1 → w.toInt = x3.toInt - 1 → z_fi M1 = z_fi M → rf_J n t (s + 1) (q + 1) z M0 M1 → K x1 y w M1) : P_X12_acknowledges_56 (n + 40) Post K x1 x2 x3 x4 M := by
  unfold P_X12_acknowledges_56
  rw [← e1, ← e2]
  have N1 := i_nat n1
  have N2 := i_nat n2
  have m1 : (15 * T + (1 + 2 * r)) % 15 = 1 + 2 * r := by rw [Nat.mul_add_mod]; exact Nat.mod_eq_of_lt (by omega)
  have m2 : (15 * T + (2 + 2 * r)) % 15 = 2 + 2 * r := by rw [Nat.mul_add_mod]; exact Nat.mod_eq_of_lt (by omega)
  refine z_nn_of (s_1560_40 J.1) (And.intro (vp_of (L := 54000) (s_l61 J.1) (by omega) (by omega)) ?_)
  intro M5 e5
  have J5 := w_61 J e5 (fun h => by rw [N1, m1] at h; omega) (fun _ => ⟨h0, by omega⟩) (by rw [N1, m1]; omega)
  have f5 : z_fi M5 = z_fi M := by rw [e5]; rfl
  refine z_nn_of (s_1560_40 J5.1) (And.intro (vp_of (L := 54000) (s_l61 J5.1) (by omega) (by omega)) ?_)
  intro M9 e9
  have J9 := w_61 J5 e9 (fun h => by rw [N2, m2] at h; omega) (fun _ => ⟨by omega, h4⟩) (by rw [N2, m2]; omega)
  intro y ey w ew
  exact k y w M9 (by rw [ey]; exact i_add1 (by omega) (by omega)) (by rw [ew]; exact i_addm1 (by omega) (by omega)) (by rw [e9]; exact f5) J9
theorem t_ak35 {T : Nat} {x1 x2 x4 : Int32} {Post : z_Mem → Prop} {K : Int32 → Int32 → Int32 → z_Mem → Prop} (hT : T < 3600) (hx1 : x1.toInt = 15 * T) (h2 : 0 ≤ x2.toInt ∧ x2.toInt ≤ 3) (h4 : 0 ≤ x4.toInt ∧ x4.toInt ≤ 399) (J : rf_J n t (s + 1) (q + 1) z M0 M) (ht : (z_fi M 1561 (n + 40)).toInt = T) (k : ∀ y w M1, y.toInt = x2.toInt + 1 → -1 ≤ w.toInt → w.toInt < x4.toInt → z_fi M1 = z_fi M → rf_J n t (s + 1) (q + 1) z M0 M1 → K x1 y w M1) : ∀ (m : Nat) (x3 : Int32), (x3.toInt).toNat < m → 0 ≤ x3.toInt → x3.toInt ≤ x4.toInt → P_X12_acknowledges_35 (n + 40) Post K m x1 x2 x3 x4 M := by
  have T0 : (0 : Int32).toInt = 0 := rfl
  have f56 : ∀ x3 : Int32, 0 ≤ x3.toInt → x3.toInt ≤ x4.toInt → P_X12_acknowledges_56 (n + 40) Post K x1 x2 x3 x4 M := fun x3 h0 h1 => by
    obtain ⟨r, hr⟩ : ∃ r : Nat, x2.toInt = r := ⟨x2.toInt.toNat, by omega⟩
    exact t_ak56 (T := T) (r := r) J rfl rfl (i_pos2 hx1 (show (1 : Int32).toInt = (1 : Nat) from rfl) hr hT (by omega) (by decide)) (i_pos2 hx1 (show (2 : Int32).toInt = (2 : Nat) from rfl) hr hT (by omega) (by decide)) hr (by omega) hT ht h0 h1 h4.2 (fun y w M1 hy hw hf J1 => k y w M1 hy (by omega) (by omega) hf J1)
  intro m
  induction m with
  | zero => intro x3 h; exact absurd h (Nat.not_lt_zero _)
  | succ m ih =>
    intro x3 hm h0 h1
    refine And.intro (fun _ => f56 x3 h0 h1) (fun c => ?_)
    have c' := i_nle c rfl T0
    refine z_nn_of (s_1569_40 J.1) ?_
    have ts : ∃ x9, x9 = x3 - 1 ∧ x9.toInt = x3.toInt - 1 := ⟨_, rfl, i_subE rfl (show (1 : Int32).toInt = 1 from rfl) (by omega) (by omega)⟩
    have ty : ∀ y, y = x3 + (-1) → y.toInt = x3.toInt - 1 := fun y ey => by rw [ey]; exact i_addm1 (by omega) (by omega)
    obtain ⟨x9, e9, t9⟩ := ts
    rw [← e9]
    refine And.intro (vp_of (L := 400) (s_l63 J.1) (by omega) (by omega)) (And.intro (fun _ => f56 x3 h0 h1) (fun _ => ?_))
    intro y ey
    have t2 := ty y ey
    exact ih y (by omega) (by omega) (by omega)
theorem t_ak14 {T : Nat} {x1 sv : Int32} {Post : z_Mem → Prop} (hT : T < 3600) (hx1 : x1.toInt = 15 * T) (k : ∀ M1, z_fi M1 1562 (n + 40) = sv → rf_J n t s q z M0 M1 → Post M1) : ∀ (m : Nat) (x2 x3 : Int32) (M : z_Mem), (x3.toInt + 1).toNat < m → 0 ≤ x2.toInt → x2.toInt ≤ 4 → -1 ≤ x3.toInt → x3.toInt ≤ 399 → (x2.toInt = 0 → ∀ j : Nat, j < 400 → x3.toInt < j → z_ai M (n + 63) j = 0) → (z_fi M 1561 (n + 40)).toInt = T → 0 ≤ (z_fi M 1575 (n + 40)).toInt → z_fi M 1562 (n + 40) = sv → rf_J n t (s + 1) (q + 1) z M0 M → P_X12_acknowledges_14 (n + 40) Post m x1 x2 x3 M := by
  have T0 : (0 : Int32).toInt = 0 := rfl
  have T4 : (4 : Int32).toInt = 4 := rfl
  intro m
  induction m with
  | zero => intro x2 x3 M h; omega
  | succ m ih =>
    intro x2 x3 M hm h0 h4 h5 h6 hz ht hd hP J
    have ty : ∀ y, y = x3 + (-1) → y.toInt = x3.toInt - 1 := fun y ey => by rw [ey]; exact i_addm1 (by omega) (by omega)
    refine And.intro (fun c => ?_) (fun c => And.intro (fun c2 => ?_) (fun c2 => ?_))
    · have c' := i_lt c rfl T0
      refine t_ak92 J hT ht hx1 ⟨h0, h4⟩ (fun hm => ?_) hd hP k
      obtain ⟨j, hj, hn⟩ := rf_C8a J hm
      rcases (show x2.toInt = 0 ∨ 0 < x2.toInt by omega) with e | e
      · exact absurd (hz e j hj (by omega)) hn
      · exact e
    · have c' := i_le c2 T4 rfl
      exact t_ak92 J hT ht hx1 ⟨h0, h4⟩ (fun _ => by omega) hd hP k
    · have c' := i_nlt c rfl T0
      have c2' := i_nle c2 T4 rfl
      refine z_nn_of (s_1569_40 J.1) ?_
      refine And.intro (vp_of (L := 400) (s_l63 J.1) (by omega) (by omega)) (And.intro (fun c3 => ?_) (fun _ => ?_))
      · intro y ey
        have t2 := ty y ey
        refine ih x2 y M (by omega) h0 h4 (by omega) (by omega) (fun e j hj hl => ?_) ht hd hP J
        rw [t2] at hl
        rcases (show x3.toInt < j ∨ x3.toInt = j by omega) with e1 | e1
        · exact hz e j hj e1
        · rw [i_nat e1] at c3; exact c3
      · refine ⟨_, t_ak35 hT hx1 ⟨h0, by omega⟩ ⟨by omega, h6⟩ J ht (fun y w M1 hy hw1 hw2 hf J1 => ?_) _ x3 (Nat.lt_succ_self _) (by omega) (Int.le_refl _)⟩
        exact ih y w M1 (by omega) (by omega) (by omega) hw1 (by omega) (fun e => by omega) (by rw [hf]; exact ht) (by rw [hf]; exact hd) (by rw [hf]; exact hP) J1
theorem t_X12_acknowledges {Post : z_Mem → Prop} (J : rf_J n t (s + 1) (q + 1) z M0 M) (h0 : 0 ≤ (z_fi M 1575 (n + 40)).toInt) (k : ∀ M1, z_fi M1 1562 (n + 40) = z_fi M 1562 (n + 40) → rf_J n t s q z M0 M1 → Post M1) : P_X12_acknowledges (n + 40) M Post := by
  intro x64 e64
  have b := rf_tel J
  obtain ⟨T, hT⟩ : ∃ T : Nat, (z_fi M 1561 (n + 40)).toInt = T := ⟨(z_fi M 1561 (n + 40)).toInt.toNat, by omega⟩
  have hx : x64.toInt = 15 * T := by rw [e64]; exact i_mulE (show (15 : Int32).toInt = 15 from rfl) hT (by omega) (by omega)
  exact ⟨_, t_ak14 (by omega) hx k _ 0 399 M (Nat.lt_succ_self _) (by decide) (by decide) (by decide) (by decide) (fun _ j hj hl => by
    have : (399 : Int32).toInt = 399 := rfl
    omega) hT h0 rfl J⟩
end RFA
