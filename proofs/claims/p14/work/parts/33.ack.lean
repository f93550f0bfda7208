/-! ===== THE CLASS: what the server tells ===== -/
section YA
variable {n c s : Nat} {M0 M M1 : z_Mem}
theorem r_sfrA {g a : Nat} {v : Option Nat} (I : y_CI n c s M0 M) (e : M1 = z_sfr M g a v) (hg : g = 0 ∨ g = 1 ∨ g = 2) (h3 : ∀ m b, z_fr M 516 m = some b → b ≠ a) (h4 : z_sz M0 ≤ a) : y_CI n c s M0 M1 := by
  subst e
  obtain ⟨S, L, R, A, F, G⟩ := I
  have ht : y_Tg g = true := by rcases hg with rfl | rfl | rfl <;> decide +kernel
  have key : ∀ b, b ≠ a → y_ak n M b → y_ak n (z_sfr M g a v) b := fun b hn hk => by
    obtain ⟨h1, h2, l, h, e, q0, q1, q2, qq⟩ := hk
    have rd : ∀ k, z_fr (z_sfr M g a v) k b = z_fr M k b := fun k => by
      rw [zq_fr_sfr]
      split
      · rfl
      · rfl
    exact ⟨h1, h2, l, h, e, by rw [rd]; exact q0, by rw [rd]; exact q1, by rw [rd]; exact q2, qq⟩
  refine ⟨S_sfr ht S, L, R, fun m b hb => ?_, F, G.1, G.2.1, G.2.2.1, fun b hb => key b (by have := hb.2.1; omega) (G.2.2.2 b hb)⟩
  rw [zq_fr_sfr, if_neg (by omega)] at hb
  exact key b (h3 m b hb) (A m b hb)
theorem t_X0_init {a : Nat} {Post : z_Mem → Prop} (I : y_CI n (c + 3) (s + 12) M0 M) (h1 : n + 108 ≤ a) (h2 : a < z_sz M) (h3 : ∀ m b, z_fr M 516 m = some b → b ≠ a) (h4 : z_sz M0 ≤ a) (k : ∀ M1, y_CI n c s M0 M1 → y_ak n M1 a → (∀ g x, z_fi M1 g x = z_fi M g x) → Post M1) : P_X0_init a M Post := by
  refine And.intro (r_room (w := 4) I) ?_
  intro M2 e2 M3 e3
  have I2 := r_nwa (w := 4) I e2
  have g2 : ∀ m b, z_fr M2 516 m = some b → b ≠ a := fun m b hb => h3 m b (by rw [e2] at hb; exact hb)
  have I3 := r_sfrA I2 e3 (Or.inl rfl) g2 h4
  refine And.intro (r_room (w := 4) I3) ?_
  intro M5 e5 M6 e6
  have I5 := r_nwa (w := 4) I3 e5
  have g5 : ∀ m b, z_fr M5 516 m = some b → b ≠ a := fun m b hb => g2 m b (by rw [e5, e3] at hb; exact hb)
  have I6 := r_sfrA I5 e6 (Or.inr (Or.inl rfl)) g5 h4
  refine And.intro (r_room (w := 4) I6) ?_
  intro M8 e8 M9 e9
  have I8 := r_nwa (w := 4) I6 e8
  have g8 : ∀ m b, z_fr M8 516 m = some b → b ≠ a := fun m b hb => g5 m b (by rw [e8, e6] at hb; exact hb)
  have I9 := r_sfrA I8 e9 (Or.inr (Or.inr rfl)) g8 h4
  have hf : ∀ g x, z_fi M9 g x = z_fi M g x := fun g x => by rw [e9, e8, e6, e5, e3, e2]; rfl
  refine k _ I9 ⟨h1, ?_, z_sz M, z_sz M + 1, z_sz M + 2, ?_, ?_, ?_, ⟨?_, ?_, ?_⟩, ⟨?_, ?_, ?_⟩, ⟨?_, ?_, ?_⟩⟩ hf
  all_goals (have hz := I.1.2.2.2)
  all_goals (try simp only [e9, e8, e6, e5, e3, e2, zq_fr_sfr, zq_fr_nwa, zq_ln_sfr, zq_ln_nwa, zq_sz_sfr, zq_sz_nwa])
  all_goals (repeat (first | omega | rfl | rw [if_pos rfl] | rw [if_neg (by omega)]))
theorem y_ak_sai {a b j : Nat} {v : Int32} (h : y_ak n M b) (e : M1 = z_sai M a j v) : y_ak n M1 b := by rw [e]; exact h
theorem y_ak_sfi {a b g : Nat} {v : Int32} (h : y_ak n M b) (e : M1 = z_sfi M g a v) : y_ak n M1 b := by rw [e]; exact h
theorem t_X0_addRange {a : Nat} {p1 p2 : Int32} {Post : z_Mem → Prop} (I : y_CI n c s M0 M) (hk : y_ak n M a) (hr : 0 ≤ (z_fi M 3 a).toInt) (hr2 : (z_fi M 3 a).toInt < 1000) (k : ∀ M1, y_CI n c s M0 M1 → y_ak n M1 a → 0 ≤ (z_fi M1 3 a).toInt → (z_fi M1 3 a).toInt ≤ (z_fi M 3 a).toInt + 1 → Post M1) : P_X0_addRange a p1 p2 M Post := by
  have T4 : (4 : Int32).toInt = 4 := rfl
  obtain ⟨w1, w2, l, h, e, q0, q1, q2, ⟨l1, l2, l3⟩, ⟨h1, h2, h3⟩, -⟩ := id hk
  refine And.intro (fun _ => k _ I hk hr (by omega)) (fun c1 => z_nn_of q0 (And.intro (vp_of l1 hr ?_) ?_))
  · rw [Int32.le_iff_toInt_le] at c1; omega
  intro M7 e7
  have I7 := r_sai I e7 (by omega)
  have v7 : z_fi M7 3 a = z_fi M 3 a := by rw [e7, zq_fi_sai]
  rw [Int32.le_iff_toInt_le] at c1
  refine z_nn_of (a := h) (by rw [e7, zq_fr_sai]; exact q1) (And.intro (vp_of (L := 4) (by rw [e7, zq_ln_sai]; exact h1) (by rw [v7]; exact hr) (by rw [v7]; omega)) ?_)
  intro M12 e12 M14 e14
  have I12 := r_sai I7 e12 (by omega)
  have v12 : z_fi M12 3 a = z_fi M 3 a := by rw [e12, zq_fi_sai, v7]
  have t0 := i_add1 (x := z_fi M 3 a) (by omega) (by omega)
  have I14 := r_rng I12 e14 (by rw [v12]; omega) (by rw [v12]; omega)
  have v14 : z_fi M14 3 a = z_fi M 3 a + 1 := by rw [e14, zq_fi_sfi, if_pos rfl, if_pos rfl, v12]
  have t1 := i_add1 (x := z_fi M 3 a) (by omega) (by omega)
  exact k _ I14 (y_ak_sfi (y_ak_sai (y_ak_sai hk e7) e12) e14) (by rw [v14]; omega) (by rw [v14]; omega)
theorem t_X8_nextTaken_2 {Post : Int32 → z_Mem → Prop} (I : y_CI n c s M0 M) (k : ∀ r, Post r M) : ∀ (m : Nat) (x2 x3 : Int32), (x3.toInt + 1).toNat < m → P_X8_nextTaken_2 (n + 28) Post m x2 x3 M := by
  have T0 : (0 : Int32).toInt = 0 := rfl
  have T400 : (400 : Int32).toInt = 400 := rfl
  intro m
  induction m with
  | zero => intro x2 x3 h; omega
  | succ m ih =>
    intro x2 x3 hm
    refine And.intro (fun _ => k _) (fun c1 => And.intro (fun _ => k _) (fun c2 => z_nn_of (s_1033_28 I.1) ?_))
    rw [Int32.lt_iff_toInt_lt] at c1
    rw [Int32.le_iff_toInt_le] at c2
    refine And.intro (vp_of (L := 400) (s_l30 I.1) (by omega) (by omega)) (And.intro (fun _ => k _) (fun _ => ?_))
    intro y ey
    have t1 := i_addm1 (x := x3) (by omega) (by omega)
    exact ih _ _ (by rw [ey]; omega)
theorem t_X8_nextTaken {p1 p2 : Int32} {Post : Int32 → z_Mem → Prop} (I : y_CI n c s M0 M) (k : ∀ r, Post r M) : P_X8_nextTaken (n + 28) p1 p2 M Post := ⟨(p1.toInt + 1).toNat + 1, t_X8_nextTaken_2 I k _ _ _ (Nat.lt_succ_self _)⟩
theorem t_X8_makeAck_73 {Post : Option Nat → z_Mem → Prop} {b : Nat} (k : ∀ M1, y_CI n c s M0 M1 → y_ak n M1 b → Post (some b) M1) : ∀ (m : Nat) (x3 x4 : Int32) (M : z_Mem), (4 - x4.toInt).toNat < m → 0 ≤ x4.toInt → y_CI n c s M0 M → y_ak n M b → P_X8_makeAck_73 (n + 28) Post m (some b) x3 x4 M := by
  have T4 : (4 : Int32).toInt = 4 := rfl
  intro m
  induction m with
  | zero => intro x3 x4 M h; omega
  | succ m ih =>
    intro x3 x4 M hm h0 I hk
    obtain ⟨w1, w2, l, h, e, q0, q1, q2, -, -, ⟨e1, e2, e3⟩⟩ := id hk
    refine And.intro (fun _ => z_nn_of rfl ?_) (fun c1 => z_nn_of rfl (z_nn_of (s_1025_28 I.1) ?_))
    · intro M3 e3
      exact k _ (r_sfi I e3 (by decide +kernel)) (y_ak_sfi hk e3)
    · rw [Int32.le_iff_toInt_le] at c1
      have hj : x4.toNatClampNeg < 4 := by have := i_nat2 h0; omega
      refine And.intro (vp_of (L := 4) (s_l11 I.1) h0 (by omega)) (z_nn_of (s_str I.1 hj) (z_nn_of q2 (And.intro (vp_of e1 h0 (by omega)) ?_)))
      intro M13 e13
      have I13 := r_sai I e13 (by omega)
      refine z_nn_of (s_1025_28 I13.1) (And.intro (vp_of (L := 4) (s_l11 I13.1) h0 (by omega)) (z_nn_of (s_str I13.1 hj) ?_))
      intro y ey z ez
      have t1 := i_add1 (x := x4) (by omega) (by omega)
      exact ih _ _ _ (by rw [ez]; omega) (by rw [ez]; omega) I13 (y_ak_sai hk e13)
theorem t_X8_makeAck_60 {Post : Option Nat → z_Mem → Prop} {b : Nat} (I : y_CI n c s M0 M) (hk : y_ak n M b) (k : ∀ M1, y_CI n c s M0 M1 → y_ak n M1 b → Post (some b) M1) : P_X8_makeAck_60 (n + 28) Post (some b) M := by
  refine z_nn_of rfl ?_
  intro M23 e23
  exact ⟨5, t_X8_makeAck_73 k 5 0 0 M23 (by decide) (by decide) (r_sfi I e23 (by decide +kernel)) (y_ak_sfi hk e23)⟩
theorem t_X8_makeAck_20 {Post : Option Nat → z_Mem → Prop} {b : Nat} (k : ∀ M1, y_CI n c s M0 M1 → y_ak n M1 b → Post (some b) M1) : ∀ (m : Nat) (x2 x3 : Int32) (M : z_Mem), (4 - x3.toInt).toNat < m → 0 ≤ x3.toInt → y_CI n c s M0 M → y_ak n M b → 0 ≤ (z_fi M 3 b).toInt → (z_fi M 3 b).toInt ≤ x3.toInt → P_X8_makeAck_20 (n + 28) Post m (some b) x2 x3 M := by
  have T4 : (4 : Int32).toInt = 4 := rfl
  intro m
  induction m with
  | zero => intro x2 x3 M h; omega
  | succ m ih =>
    intro x2 x3 M hm h0 I hk hr hr2
    refine And.intro (fun _ => t_X8_makeAck_60 I hk k) (fun c1 => And.intro (fun _ => t_X8_makeAck_60 I hk k) (fun _ => ?_))
    rw [Int32.le_iff_toInt_le] at c1
    refine t_X8_nextTaken I (fun x27 => z_nn_of rfl ?_)
    refine t_X0_addRange I hk hr (by omega) (fun M28 I28 hk28 hr28 hr28b => ?_)
    refine t_X8_nextTaken I28 (fun x30 => ?_)
    intro y ey
    have t1 := i_add1 (x := x3) (by omega) (by omega)
    exact ih _ _ _ (by rw [ey]; omega) (by rw [ey]; omega) I28 hk28 hr28 (by rw [ey]; omega)
theorem t_X8_makeAck {Post : Option Nat → z_Mem → Prop} (I : y_CI n (c + 4) (s + 18) M0 M) (k : ∀ b M1, y_CI n c s M0 M1 → y_ak n M1 b → Post (some b) M1) : P_X8_makeAck (n + 28) M Post := by
  refine And.intro (r_room (w := 6) I) ?_
  intro M33 e33
  have I33 := r_new (w := 6) I e33
  have hz := I.1.2.2.2
  refine t_X0_init I33 hz (by rw [e33, zq_sz_new]; omega) (fun m b hb => ?_) I.2.2.2.2.2.2.2.1 (fun M34 I34 hk hf => ?_)
  · rw [e33, zq_fr_new] at hb
    split at hb
    · cases hb
    · have := (I.2.2.2.1 m b hb).2.1; omega
  · refine t_X8_nextTaken I34 (fun x36 => ⟨5, ?_⟩)
    have v0 : z_fi M34 3 (z_sz M) = 0 := by rw [hf, e33, zq_fi_new, if_pos rfl]
    have T0 : (0 : Int32).toInt = 0 := rfl
    exact t_X8_makeAck_20 (k _) 5 _ 0 M34 (by decide) (by decide) I34 hk (by rw [v0]; decide) (by rw [v0]; decide)
end YA
