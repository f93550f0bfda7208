/-! ===== THE CLASS: rows by hand ===== -/
theorem i_fin {x : Int32} {N : Nat} (h0 : 0 ≤ x.toInt) (h1 : x.toInt < N) (hN : N ≤ 2000000) : ∃ k : Fin N, x = nI k.val := by
  refine ⟨⟨x.toInt.toNat, by omega⟩, Int32.toInt_inj.mp ?_⟩
  rw [i_ofNat (by omega)]; show x.toInt = ((x.toInt.toNat : Nat) : Int); omega
theorem i_mod30 {x : Int32} (h0 : 0 ≤ x.toInt) (h1 : x.toInt < 100) : 0 ≤ (x - x / 30 * 30).toInt ∧ (x - x / 30 * 30).toInt < 30 := by
  obtain ⟨k, rfl⟩ := i_fin (N := 100) h0 h1 (by omega)
  have : ∀ k : Fin 100, 0 ≤ (nI k.val - nI k.val / 30 * 30).toInt ∧ (nI k.val - nI k.val / 30 * 30).toInt < 30 := by decide +kernel
  exact this k
theorem i_mod8 {x : Int32} (h0 : 0 ≤ x.toInt) (h1 : x.toInt < 100) : 0 ≤ (x - x / 8 * 8).toInt ∧ (x - x / 8 * 8).toInt < 8 := by
  obtain ⟨k, rfl⟩ := i_fin (N := 100) h0 h1 (by omega)
  have : ∀ k : Fin 100, 0 ≤ (nI k.val - nI k.val / 8 * 8).toInt ∧ (nI k.val - nI k.val / 8 * 8).toInt < 8 := by decide +kernel
  exact this k
theorem i_addn {x y : Int32} (h : -1000000 < x.toInt) (h2 : x.toInt < 1000000) (h3 : -1000000 < y.toInt) (h4 : y.toInt < 1000000) : (x + y).toInt = x.toInt + y.toInt := by
  rw [Int32.toInt_add, Int.bmod_eq_of_le (by omega) (by omega)]
theorem i_subn {x y : Int32} (h : -1000000 < x.toInt) (h2 : x.toInt < 1000000) (h3 : -1000000 < y.toInt) (h4 : y.toInt < 1000000) : (x - y).toInt = x.toInt - y.toInt := by
  rw [Int32.toInt_sub, Int.bmod_eq_of_le (by omega) (by omega)]
section YM
variable {n c s : Nat} {M0 M : z_Mem}
theorem t_X3_append {a : Nat} {p1 : Option Nat} {Post : z_Mem → Prop} (I : y_CI n c s M0 M) (ha : a = n + 2 ∨ a = n + 4) (k : ∀ M1, y_CI n c s M0 M1 → Post M1) : P_X3_append a p1 M Post := by
  have T30 : (30 : Int32).toInt = 30 := rfl
  obtain ⟨l1, l2, l3, l4, -⟩ := I.2.1.1 a ha
  have ex : (z_fi M 394 a + z_fi M 395 a).toInt = (z_fi M 394 a).toInt + (z_fi M 395 a).toInt := i_addn (by omega) (by omega) (by omega) (by omega)
  obtain ⟨m1, m2⟩ := i_mod30 (x := z_fi M 394 a + z_fi M 395 a) (by omega) (by omega)
  have fin : ∀ q, q ≠ n + 11 → (∀ N, y_S n N → z_fr N 393 a = some q ∧ z_ln N q = 30) → P_X3_append a p1 M Post := fun q hq hs => by
    obtain ⟨h1, h2⟩ := hs M I.1
    refine And.intro (fun _ => k _ I) (fun c1 => ?_)
    rw [Int32.le_iff_toInt_le, T30] at c1
    refine z_nn_of h1 (And.intro (vp_of h2 m1 m2) ?_)
    intro M8 e8 M10 e10
    have I8 := r_sar I e8 hq
    have hv : z_fi M8 395 a = z_fi M 395 a := by rw [e8, zq_fi_sar]
    rw [hv] at e10
    have := i_add1 (x := z_fi M 395 a) (by omega) (by omega)
    exact k _ (r_len I8 e10 (by omega) (by omega))
  rcases ha with rfl | rfl
  · exact fin (n + 3) (by omega) (fun N S => ⟨s_393_2 S, s_l3 S⟩)
  · exact fin (n + 5) (by omega) (fun N S => ⟨s_393_4 S, s_l5 S⟩)
theorem t_X3_removeFirst {a : Nat} {Post : Option Nat → z_Mem → Prop} (I : y_CI n c s M0 M) (ha : a = n + 2 ∨ a = n + 4) (hl : ¬ z_fi M 395 a ≤ 0) (k : ∀ r M1, y_CI n c s M0 M1 → Post r M1) : P_X3_removeFirst a M Post := by
  have T0 : (0 : Int32).toInt = 0 := rfl
  obtain ⟨l1, l2, l3, l4, -⟩ := I.2.1.1 a ha
  rw [Int32.le_iff_toInt_le, T0] at hl
  have fin : ∀ q, q ≠ n + 11 → (∀ N, y_S n N → z_fr N 393 a = some q ∧ z_ln N q = 30) → P_X3_removeFirst a M Post := fun q hq hs => by
    obtain ⟨h1, h2⟩ := hs M I.1
    refine z_nn_of h1 (And.intro (vp_of h2 l1 l2) (z_nn_of h1 (And.intro (vp_of h2 l1 l2) ?_)))
    intro M9 e9 M11 e11 M13 e13
    have I9 := r_sar I e9 hq
    have v4 : z_fi M9 394 a = z_fi M 394 a := by rw [e9, zq_fi_sar]
    rw [v4] at e11
    have t1 := i_add1 (x := z_fi M 394 a) (by omega) (by omega)
    obtain ⟨m1, m2⟩ := i_mod30 (x := z_fi M 394 a + 1) (by omega) (by omega)
    have I11 := r_head I9 e11 m1 m2
    have v5 : z_fi M11 395 a = z_fi M 395 a := by rw [e11, y_spne (by decide), e9, zq_fi_sar]
    rw [v5] at e13
    have t2 := i_sub1 (x := z_fi M 395 a) (by omega) (by omega)
    exact k _ _ (r_len I11 e13 (by omega) (by omega))
  rcases ha with rfl | rfl
  · exact fin (n + 3) (by omega) (fun N S => ⟨s_393_2 S, s_l3 S⟩)
  · exact fin (n + 5) (by omega) (fun N S => ⟨s_393_4 S, s_l5 S⟩)
theorem t_X10_appendS {p1 : Option Nat} {p2 : Int32} {Post : z_Mem → Prop} (I : y_CI n (c + 9) (s + 40) M0 M) (hp : ∃ q, p1 = some q) (k : ∀ M1, y_CI n c s M0 M1 → Post M1) : P_X10_append (n + 6) p1 p2 M Post := by
  obtain ⟨q, rfl⟩ := hp
  have T : (nI 1024).toInt = 1024 := rfl
  obtain ⟨l1, l2⟩ := I.2.1.2.1
  refine z_nn_of (s_1280_6 I.1) (And.intro (fun _ => k _ (r_w I (by omega) (by omega))) (fun c1 => z_nn_of rfl ?_))
  rw [s_l7 I.1, Int32.le_iff_toInt_le, T] at c1
  intro M6 e6
  have hv : z_fi M6 1281 (n + 6) = z_fi M 1281 (n + 6) := by rw [e6, y_spne (by decide)]
  have I6 := r_sfi I e6 (by decide +kernel)
  refine z_nn_of (s_1280_6 I6.1) (And.intro (vp_of (L := 1024) (s_l7 I6.1) (by rw [hv]; omega) (by rw [hv]; omega)) ?_)
  intro M11 e11 M13 e13
  have I11 := r_sar I6 e11 (by omega)
  have hv2 : z_fi M11 1281 (n + 6) = z_fi M 1281 (n + 6) := by rw [e11, zq_fi_sar, hv]
  have t1 := i_add1 (x := z_fi M 1281 (n + 6)) (by omega) (by omega)
  exact k _ (r_tSu I11 e13 (by rw [hv2]; exact t1) (by rw [hv2]; omega))
theorem t_X10_appendC {p1 : Option Nat} {p2 : Int32} {Post : z_Mem → Prop} (I : y_CI n c s M0 M) (hp : ∃ q, p1 = some q) (k : ∀ M1, y_CI n c s M0 M1 → Post M1) : P_X10_append (n + 8) p1 p2 M Post := by
  obtain ⟨q, rfl⟩ := hp
  have T : (nI 2048).toInt = 2048 := rfl
  obtain ⟨l1, l2⟩ := I.2.1.2.2.1
  refine z_nn_of (s_1280_8 I.1) (And.intro (fun _ => k _ I) (fun c1 => z_nn_of rfl ?_))
  rw [s_l9 I.1, Int32.le_iff_toInt_le, T] at c1
  intro M6 e6
  have hv : z_fi M6 1281 (n + 8) = z_fi M 1281 (n + 8) := by rw [e6, y_spne (by decide)]
  have I6 := r_sfi I e6 (by decide +kernel)
  refine z_nn_of (s_1280_8 I6.1) (And.intro (vp_of (L := 2048) (s_l9 I6.1) (by rw [hv]; omega) (by rw [hv]; omega)) ?_)
  intro M11 e11 M13 e13
  have I11 := r_sar I6 e11 (by omega)
  have hv2 : z_fi M11 1281 (n + 8) = z_fi M 1281 (n + 8) := by rw [e11, zq_fi_sar, hv]
  have t1 := i_add1 (x := z_fi M 1281 (n + 8)) (by omega) (by omega)
  exact k _ (r_tC I11 e13 (by rw [hv2]; omega) (by rw [hv2]; omega))
/-- a row's own copy, behind the one that is taken -/
theorem t_cut {i l : Int32} {L : Nat} (h0 : 0 ≤ i.toInt) (h1 : i.toInt < l.toInt) (h2 : l.toInt ≤ L) (hL : L ≤ 5000) : ¬ (i + 1) < 0 ∧ ¬ i < 0 ∧ ¬ ((l - i) - 1) < 0 ∧ (i + 1).toNatClampNeg + ((l - i) - 1).toNatClampNeg ≤ L ∧ i.toNatClampNeg + ((l - i) - 1).toNatClampNeg ≤ L ∧ (l - 1).toInt = l.toInt - 1 := by
  have T0 : (0 : Int32).toInt = 0 := rfl
  have a1 := i_add1 (x := i) (by omega) (by omega)
  have a2 := i_subn (x := l) (y := i) (by omega) (by omega) (by omega) (by omega)
  have a3 := i_sub1 (x := l - i) (by omega) (by omega)
  have a4 := i_sub1 (x := l) (by omega) (by omega)
  have b1 := i_nat2 (x := i + 1) (by omega)
  have b2 := i_nat2 (x := i) (by omega)
  have b3 := i_nat2 (x := l - i - 1) (by omega)
  refine ⟨?_, ?_, ?_, by omega, by omega, a4⟩
  · rw [Int32.lt_iff_toInt_lt]; omega
  · rw [Int32.lt_iff_toInt_lt]; omega
  · rw [Int32.lt_iff_toInt_lt]; omega
theorem t_takeDueS_2 {Post : Option Nat → z_Mem → Prop} (I : y_CI n c s M0 M) (k0 : Post none M) (k1 : ∀ q M1, y_CI n (c + 9) (s + 40) M0 M1 → Post (some q) M1) : ∀ (m : Nat) (x1 x2 : Int32), (2000 - x2.toInt).toNat < m → 0 ≤ x2.toInt → P_X10_takeDue_2 (n + 6) Post m x1 x2 M := by
  have T : (nI 1024).toInt = 1024 := rfl
  obtain ⟨l1, l2⟩ := I.2.1.2.1
  intro m
  induction m with
  | zero => intro x1 x2 h; omega
  | succ m ih =>
    intro x1 x2 hm h0
    refine And.intro (fun _ => k0) (fun c1 => z_nn_of (s_1280_6 I.1) (And.intro (fun _ => k0) (fun c2 => z_nn_of (s_1280_6 I.1) ?_)))
    rw [Int32.le_iff_toInt_le] at c1
    rw [s_l7 I.1, Int32.le_iff_toInt_le, T] at c2
    have t1 := i_add1 (x := x2) (by omega) (by omega)
    refine And.intro (vp_of (L := 1024) (s_l7 I.1) h0 (by omega)) (And.intro (fun _ => ?_) (fun q hq => And.intro (fun _ => z_nn_of (s_1280_6 I.1) ?_) (fun _ => ?_)))
    · intro y ey
      exact ih _ _ (by rw [ey]; omega) (by rw [ey]; omega)
    · obtain ⟨g1, g2, g3, g4, g5, g6⟩ := t_cut (i := x2) (l := z_fi M 1281 (n + 6)) (L := 1024) h0 (by omega) (by omega) (by omega)
      refine ⟨g1, g2, g3, by rw [s_l7 I.1]; exact g4, by rw [s_l7 I.1]; exact g5, ?_⟩
      intro M18 e18 M20 e20
      have I18 := r_srr I e18 (by omega)
      have hv : z_fi M18 1281 (n + 6) = z_fi M 1281 (n + 6) := by rw [e18, zq_fi_srr]
      have I20 := r_tSd I18 e20 (by rw [hv]; omega) (by rw [hv]; omega)
      have hw : z_fi M20 1281 (n + 6) = z_fi M 1281 (n + 6) - 1 := by rw [e20, zq_fi_sfi, if_pos rfl, if_pos rfl, hv]
      refine z_nn_of (s_1280_6 I20.1) (And.intro (vp_of (L := 1024) (s_l7 I20.1) (by rw [hw]; omega) (by rw [hw]; omega)) ?_)
      intro M25 e25
      rw [hq]
      exact k1 _ _ (r_sar I20 e25 (by omega))
    · intro y ey
      exact ih _ _ (by rw [ey]; omega) (by rw [ey]; omega)
theorem t_takeDueS {p1 : Int32} {Post : Option Nat → z_Mem → Prop} (I : y_CI n c s M0 M) (k0 : Post none M) (k1 : ∀ q M1, y_CI n (c + 9) (s + 40) M0 M1 → Post (some q) M1) : P_X10_takeDue (n + 6) p1 M Post :=
  ⟨2001, t_takeDueS_2 I k0 k1 2001 p1 0 (by decide) (by decide)⟩
theorem t_takeDueC_2 {Post : Option Nat → z_Mem → Prop} (I : y_CI n c s M0 M) (k0 : Post none M) (k1 : ∀ q M1, y_CI n c s M0 M1 → Post (some q) M1) : ∀ (m : Nat) (x1 x2 : Int32), (4000 - x2.toInt).toNat < m → 0 ≤ x2.toInt → P_X10_takeDue_2 (n + 8) Post m x1 x2 M := by
  have T : (nI 2048).toInt = 2048 := rfl
  obtain ⟨l1, l2⟩ := I.2.1.2.2.1
  intro m
  induction m with
  | zero => intro x1 x2 h; omega
  | succ m ih =>
    intro x1 x2 hm h0
    refine And.intro (fun _ => k0) (fun c1 => z_nn_of (s_1280_8 I.1) (And.intro (fun _ => k0) (fun c2 => z_nn_of (s_1280_8 I.1) ?_)))
    rw [Int32.le_iff_toInt_le] at c1
    rw [s_l9 I.1, Int32.le_iff_toInt_le, T] at c2
    have t1 := i_add1 (x := x2) (by omega) (by omega)
    refine And.intro (vp_of (L := 2048) (s_l9 I.1) h0 (by omega)) (And.intro (fun _ => ?_) (fun q hq => And.intro (fun _ => z_nn_of (s_1280_8 I.1) ?_) (fun _ => ?_)))
    · intro y ey
      exact ih _ _ (by rw [ey]; omega) (by rw [ey]; omega)
    · obtain ⟨g1, g2, g3, g4, g5, g6⟩ := t_cut (i := x2) (l := z_fi M 1281 (n + 8)) (L := 2048) h0 (by omega) (by omega) (by omega)
      refine ⟨g1, g2, g3, by rw [s_l9 I.1]; exact g4, by rw [s_l9 I.1]; exact g5, ?_⟩
      intro M18 e18 M20 e20
      have I18 := r_srr I e18 (by omega)
      have hv : z_fi M18 1281 (n + 8) = z_fi M 1281 (n + 8) := by rw [e18, zq_fi_srr]
      have I20 := r_tC I18 e20 (by rw [hv]; omega) (by rw [hv]; omega)
      have hw : z_fi M20 1281 (n + 8) = z_fi M 1281 (n + 8) - 1 := by rw [e20, zq_fi_sfi, if_pos rfl, if_pos rfl, hv]
      refine z_nn_of (s_1280_8 I20.1) (And.intro (vp_of (L := 2048) (s_l9 I20.1) (by rw [hw]; omega) (by rw [hw]; omega)) ?_)
      intro M25 e25
      rw [hq]
      exact k1 _ _ (r_sar I20 e25 (by omega))
    · intro y ey
      exact ih _ _ (by rw [ey]; omega) (by rw [ey]; omega)
theorem t_takeDueC {p1 : Int32} {Post : Option Nat → z_Mem → Prop} (I : y_CI n c s M0 M) (k0 : Post none M) (k1 : ∀ q M1, y_CI n c s M0 M1 → Post (some q) M1) : P_X10_takeDue (n + 8) p1 M Post :=
  ⟨4001, t_takeDueC_2 I k0 k1 4001 p1 0 (by decide) (by decide)⟩
end YM
