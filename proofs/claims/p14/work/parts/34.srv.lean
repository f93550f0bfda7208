/-! ===== THE CLASS: rows of booleans, what the server does ===== -/
section YB
variable {n c s : Nat} {M0 M : z_Mem}
theorem t_X8_acknowledge {Post : z_Mem → Prop} (I : y_CI n (c + 5) (s + 26) M0 M) (k : ∀ M1, y_CI n c s M0 M1 → Post M1) : P_X8_acknowledge (n + 28) M Post := by
  refine And.intro (fun _ => And.intro (fun _ => k _ (r_w I (by omega) (by omega))) (fun _ => ?_)) (fun _ => k _ (r_w I (by omega) (by omega)))
  intro M6 e6 M7 e7 M8 e8
  have I6 := r_sfi I e6 (by decide +kernel)
  have I7 := r_sfi I6 e7 (by decide +kernel)
  have I8 := r_sfi I7 e8 (by decide +kernel)
  refine And.intro (r_room (w := 8) I8) ?_
  intro M10 e10 Ma ea Mb eb
  have I10 := r_new (w := 8) I8 e10
  have Ia := r_sfi I10 ea (by decide +kernel)
  have Ib := r_sfi Ia eb (by decide +kernel)
  refine t_X8_makeAck Ib (fun b M12 I12 hk => ?_)
  intro M13 e13
  have I13 := r_ack I12 e13 (fun b' hb => by cases hb; exact hk)
  exact z_nn_of (s_1024_28 I13.1) (t_X5_putToClient I13 rfl ⟨_, rfl⟩ (fun M16 I16 => k _ I16))
theorem t_clearRow_2 {Post : z_Mem → Prop} {b L : Nat} (hb : b < n + 40) (hL : L ≤ 1000) (hl : ∀ N, y_S n N → z_ln N b = L) (k : ∀ M1, y_CI n c s M0 M1 → Post M1) : ∀ (m : Nat) (x1 : Int32) (M : z_Mem), (L - x1.toInt).toNat < m → 0 ≤ x1.toInt → y_CI n c s M0 M → P_X11_clearRow_2 Post m (some b) x1 M := by
  have TL : (nI L).toInt = L := i_ofNat (by omega)
  intro m
  induction m with
  | zero => intro x1 M h; omega
  | succ m ih =>
    intro x1 M hm h0 I
    refine z_nn_of rfl (And.intro (fun _ => k _ I) (fun c1 => ?_))
    rw [hl M I.1, Int32.le_iff_toInt_le, TL] at c1
    refine And.intro (vp_of (L := L) (hl M I.1) h0 (by omega)) ?_
    intro M4 e4 y ey
    have t1 := i_add1 (x := x1) (by omega) (by omega)
    exact ih _ _ (by rw [ey]; omega) (by rw [ey]; omega) (r_sai I e4 (Or.inl hb))
theorem t_clearRow {Post : z_Mem → Prop} {b L : Nat} (I : y_CI n c s M0 M) (hb : b < n + 40) (hL : L ≤ 1000) (hl : ∀ N, y_S n N → z_ln N b = L) (k : ∀ M1, y_CI n c s M0 M1 → Post M1) : P_X11_clearRow (some b) M Post :=
  ⟨L + 1, t_clearRow_2 hb hL hl k (L + 1) 0 M (by have : (0 : Int32).toInt = 0 := rfl; omega) (by decide) I⟩
theorem t_markRow_6 {Post : z_Mem → Prop} {b L : Nat} (hb : b < n + 40) (hL : L ≤ 1000) (hl : ∀ N, y_S n N → z_ln N b = L) (k : ∀ M1, y_CI n c s M0 M1 → Post M1) : ∀ (m : Nat) (x1 x2 x3 : Int32) (M : z_Mem), (L - x3.toInt).toNat < m → 0 ≤ x3.toInt → y_CI n c s M0 M → P_X11_markRow_6 Post m (some b) x1 x2 x3 M := by
  have TL : (nI L).toInt = L := i_ofNat (by omega)
  intro m
  induction m with
  | zero => intro x1 x2 x3 M h; omega
  | succ m ih =>
    intro x1 x2 x3 M hm h0 I
    refine And.intro (fun _ => k _ I) (fun _ => z_nn_of rfl (And.intro (fun _ => k _ I) (fun c1 => ?_)))
    rw [hl M I.1, Int32.le_iff_toInt_le, TL] at c1
    refine And.intro (vp_of (L := L) (hl M I.1) h0 (by omega)) ?_
    intro M4 e4 y ey
    have t1 := i_add1 (x := x3) (by omega) (by omega)
    exact ih _ _ _ _ (by rw [ey]; omega) (by rw [ey]; omega) (r_sai I e4 (Or.inl hb))
theorem t_markRow {Post : z_Mem → Prop} {b L : Nat} {p2 p3 : Int32} (I : y_CI n c s M0 M) (hb : b < n + 40) (hL : L ≤ 1000) (hl : ∀ N, y_S n N → z_ln N b = L) (k : ∀ M1, y_CI n c s M0 M1 → Post M1) : P_X11_markRow (some b) p2 p3 M Post := by
  intro x hx
  exact ⟨_, t_markRow_6 hb hL hl k _ _ _ _ M (Nat.lt_succ_self _) (by rw [hx]; exact i_max0) I⟩
theorem t_prefix_6 {Post : Int32 → z_Mem → Prop} {b L : Nat} (I : y_CI n c s M0 M) (hL : L ≤ 1000) (hl : z_ln M b = L) (k : ∀ r, Post r M) : ∀ (m : Nat) (x2 : Int32), (L - x2.toInt).toNat < m → 0 ≤ x2.toInt → P_X11_lengthOfPrefix_6 Post m (some b) x2 M := by
  have TL : (nI L).toInt = L := i_ofNat (by omega)
  intro m
  induction m with
  | zero => intro x2 h; omega
  | succ m ih =>
    intro x2 hm h0
    refine z_nn_of rfl (And.intro (fun _ => k _) (fun c1 => ?_))
    rw [hl, Int32.le_iff_toInt_le, TL] at c1
    refine And.intro (vp_of (L := L) hl h0 (by omega)) (And.intro (fun _ => k _) (fun _ => ?_))
    intro y ey
    have t1 := i_add1 (x := x2) (by omega) (by omega)
    exact ih _ (by rw [ey]; omega) (by rw [ey]; omega)
theorem t_prefix {Post : Int32 → z_Mem → Prop} {b L : Nat} {p2 : Int32} (I : y_CI n c s M0 M) (hL : L ≤ 1000) (hl : z_ln M b = L) (k : ∀ r, Post r M) : P_X11_lengthOfPrefix (some b) p2 M Post := by
  intro x hx
  exact ⟨_, t_prefix_6 I hL hl k _ _ (Nat.lt_succ_self _) (by rw [hx]; exact i_max0)⟩
theorem t_X9_arrive {a : Nat} {p1 p2 : Int32} {Post : z_Mem → Prop} (I : y_CI n c s M0 M) (ha : a = n + 12 ∨ a = n + 16 ∨ a = n + 20 ∨ a = n + 24) (k : ∀ M1, y_CI n c s M0 M1 → Post M1) : P_X9_arrive a p1 p2 M Post := by
  have go : ∀ b, b < n + 40 → (∀ N, y_S n N → z_fr N 1161 a = some b ∧ z_ln N b = 200) → P_X9_arrive a p1 p2 M Post := fun b hb hs => by
    unfold P_X9_arrive
    rw [(hs M I.1).1]
    refine t_markRow I hb (L := 200) (by omega) (fun N S => (hs N S).2) (fun M2 I2 => ?_)
    rw [(hs M2 I2.1).1]
    refine t_prefix I2 (L := 200) (by omega) (hs M2 I2.1).2 (fun r => ?_)
    intro M6 e6
    exact k _ (r_sfi I2 e6 (by decide +kernel))
  rcases ha with rfl | rfl | rfl | rfl
  · exact go (n + 15) (by omega) (fun N S => ⟨s_1161_12 S, s_l15 S⟩)
  · exact go (n + 19) (by omega) (fun N S => ⟨s_1161_16 S, s_l19 S⟩)
  · exact go (n + 23) (by omega) (fun N S => ⟨s_1161_20 S, s_l23 S⟩)
  · exact go (n + 27) (by omega) (fun N S => ⟨s_1161_24 S, s_l27 S⟩)
theorem t_X8_forget {Post : z_Mem → Prop} (I : y_CI n c s M0 M) (k : ∀ M1, y_CI n c s M0 M1 → Post M1) : P_X8_forget (n + 28) M Post := by
  intro M1 e1 M2 e2
  have I1 := r_sfi I e1 (by decide +kernel)
  have I2 := r_sfi I1 e2 (by decide +kernel)
  rw [s_1033_28 I2.1]
  refine t_clearRow I2 (by omega) (L := 400) (by omega) (fun N S => s_l30 S) (fun M4 I4 => ?_)
  intro M5 e5 M6 e6 M7 e7 M8 e8 M9 e9
  have I5 := r_sfi I4 e5 (by decide +kernel)
  have I6 := r_sfi I5 e6 (by decide +kernel)
  have I7 := r_sfi I6 e7 (by decide +kernel)
  have I8 := r_sfi I7 e8 (by decide +kernel)
  exact k _ (r_sfi I8 e9 (by decide +kernel))
theorem t_strAt {x : Int32} (S : y_S n M) (h0 : 0 ≤ x.toInt) (h1 : x.toInt < 4) : ∃ a, z_ar M (n + 11) x.toNatClampNeg = some a ∧ (a = n + 12 ∨ a = n + 16 ∨ a = n + 20 ∨ a = n + 24) := by
  have := i_nat2 h0
  refine ⟨_, s_str S (j := x.toNatClampNeg) (by omega), ?_⟩
  rcases (show x.toNatClampNeg = 0 ∨ x.toNatClampNeg = 1 ∨ x.toNatClampNeg = 2 ∨ x.toNatClampNeg = 3 by omega) with e | e | e | e <;> rw [e] <;> omega
end YB
