/-! ===== THE CLASS, method by method ===== -/
theorem i_max0 {p : Int32} : 0 ≤ ((if 0 < p then p else 0) : Int32).toInt := by
  split
  · rename_i h; rw [Int32.lt_iff_toInt_lt] at h; have : (0 : Int32).toInt = 0 := rfl; omega
  · decide
theorem i_max1 {p : Int32} : ¬ ((if 1 < p then p else 1) : Int32) = 0 := by
  split
  · rename_i h; intro e; rw [e] at h; exact absurd h (by decide)
  · decide
theorem t_X9_isLost {n c s : Nat} {M0 : z_Mem} {a : Nat} {p1 : Int32} {M : z_Mem} {Post : Int32 → z_Mem → Prop} (I : y_CI n c s M0 M) (ha : a = n + 12 ∨ a = n + 16 ∨ a = n + 20 ∨ a = n + 24) (k : ∀ r, Post r M) : P_X9_isLost a p1 M Post := by
  have T0 : (0 : Int32).toInt = 0 := rfl; have T1 : (1 : Int32).toInt = 1 := rfl; have T4 : (4 : Int32).toInt = 4 := rfl; have T10 : (10 : Int32).toInt = 10 := rfl; have T30 : (30 : Int32).toInt = 30 := rfl; have T200 : (200 : Int32).toInt = 200 := rfl; have T400 : (400 : Int32).toInt = 400 := rfl
  rcases ha with rfl | rfl | rfl | rfl <;> (
    refine And.intro (fun c1 => ?_) (fun c1 => ?_)
    · exact k _
    · refine And.intro (fun c2 => ?_) (fun c2 => ?_)
      · exact k _
      · refine And.intro (fun c3 => ?_) (fun c3 => ?_)
        · exact k _
        · first | refine z_nn_of (s_1159_12 I.1) ?_ | refine z_nn_of (s_1159_16 I.1) ?_ | refine z_nn_of (s_1159_20 I.1) ?_ | refine z_nn_of (s_1159_24 I.1) ?_
          refine And.intro (vp_of (L := 200) (by first | exact s_l13 I.1 | exact s_l14 I.1 | exact s_l15 I.1 | exact s_l17 I.1 | exact s_l18 I.1 | exact s_l19 I.1 | exact s_l21 I.1 | exact s_l22 I.1 | exact s_l23 I.1 | exact s_l25 I.1 | exact s_l26 I.1 | exact s_l27 I.1) (by (first | omega | (simp only [Int32.not_lt, Int32.not_le, Int32.lt_iff_toInt_lt, Int32.le_iff_toInt_le] at *; omega))) (by (first | omega | (simp only [Int32.not_lt, Int32.not_le, Int32.lt_iff_toInt_lt, Int32.le_iff_toInt_le] at *; omega)))) ?_
          refine And.intro (fun c4 => ?_) (fun c4 => ?_)
          · first | refine z_nn_of (s_1160_12 I.1) ?_ | refine z_nn_of (s_1160_16 I.1) ?_ | refine z_nn_of (s_1160_20 I.1) ?_ | refine z_nn_of (s_1160_24 I.1) ?_
            refine And.intro (vp_of (L := 200) (by first | exact s_l13 I.1 | exact s_l14 I.1 | exact s_l15 I.1 | exact s_l17 I.1 | exact s_l18 I.1 | exact s_l19 I.1 | exact s_l21 I.1 | exact s_l22 I.1 | exact s_l23 I.1 | exact s_l25 I.1 | exact s_l26 I.1 | exact s_l27 I.1) (by (first | omega | (simp only [Int32.not_lt, Int32.not_le, Int32.lt_iff_toInt_lt, Int32.le_iff_toInt_le] at *; omega))) (by (first | omega | (simp only [Int32.not_lt, Int32.not_le, Int32.lt_iff_toInt_lt, Int32.le_iff_toInt_le] at *; omega)))) ?_
            refine And.intro (fun c5 => ?_) (fun c5 => ?_)
            · exact k _
            · exact k _
          · exact k _)
theorem t_X9_lowestLost_2 {n : Nat} {M0 : z_Mem} {a : Nat} {Post : Int32 → z_Mem → Prop} (ha : a = n + 12 ∨ a = n + 16 ∨ a = n + 20 ∨ a = n + 24) : ∀ (m : Nat) (x1 : Int32) (M : z_Mem) {c s : Nat}, (200 - x1.toInt).toNat < m → 0 ≤ x1.toInt → y_CI n c s M0 M → (∀ r, Post r M) → P_X9_lowestLost_2 a Post m x1 M := by
  have T0 : (0 : Int32).toInt = 0 := rfl; have T1 : (1 : Int32).toInt = 1 := rfl; have T4 : (4 : Int32).toInt = 4 := rfl; have T10 : (10 : Int32).toInt = 10 := rfl; have T30 : (30 : Int32).toInt = 30 := rfl; have T200 : (200 : Int32).toInt = 200 := rfl; have T400 : (400 : Int32).toInt = 400 := rfl
  rcases ha with rfl | rfl | rfl | rfl <;> (
    intro m
    induction m with
    | zero =>
      intro x1 M _ _ hm
      omega
    | succ m ih =>
      intro x1 M c s hm f0 I k
      refine And.intro (fun c1 => ?_) (fun c1 => ?_)
      · exact k _
      · refine t_X9_isLost I (by omega) (fun x_2 => ?_)
        refine And.intro (fun c2 => ?_) (fun c2 => ?_)
        · intro x_4 e_x_4
          have t_x_4 : x_4.toInt = x1.toInt + 1 := by rw [e_x_4]; exact i_add1 (by (first | omega | (simp only [Int32.not_lt, Int32.not_le, Int32.lt_iff_toInt_lt, Int32.le_iff_toInt_le] at *; omega))) (by (first | omega | (simp only [Int32.not_lt, Int32.not_le, Int32.lt_iff_toInt_lt, Int32.le_iff_toInt_le] at *; omega)))
          exact ih _ _ (by (first | omega | (simp only [Int32.not_lt, Int32.not_le, Int32.lt_iff_toInt_lt, Int32.le_iff_toInt_le] at *; omega))) (by (first | omega | (simp only [Int32.not_lt, Int32.not_le, Int32.lt_iff_toInt_lt, Int32.le_iff_toInt_le] at *; omega))) I k
        · exact k _)
theorem t_X9_lowestLost {n c s : Nat} {M0 : z_Mem} {a : Nat} {M : z_Mem} {Post : Int32 → z_Mem → Prop} (I : y_CI n c s M0 M) (ha : a = n + 12 ∨ a = n + 16 ∨ a = n + 20 ∨ a = n + 24) (k : ∀ r, Post r M) : P_X9_lowestLost a M Post := by
  have T0 : (0 : Int32).toInt = 0 := rfl; have T1 : (1 : Int32).toInt = 1 := rfl; have T4 : (4 : Int32).toInt = 4 := rfl; have T10 : (10 : Int32).toInt = 10 := rfl; have T30 : (30 : Int32).toInt = 30 := rfl; have T200 : (200 : Int32).toInt = 200 := rfl; have T400 : (400 : Int32).toInt = 400 := rfl
  rcases ha with rfl | rfl | rfl | rfl <;> (
    refine Exists.intro _ (t_X9_lowestLost_2 (by omega) _ _ _ (Nat.lt_succ_self _) (by (first | omega | (simp only [Int32.not_lt, Int32.not_le, Int32.lt_iff_toInt_lt, Int32.le_iff_toInt_le] at *; omega))) I k))
theorem t_X9_lostInARow_2 {n : Nat} {M0 : z_Mem} {a : Nat} {Post : Int32 → z_Mem → Prop} (ha : a = n + 12 ∨ a = n + 16 ∨ a = n + 20 ∨ a = n + 24) : ∀ (m : Nat) (x1 : Int32) (x2 : Int32) (M : z_Mem) {c s : Nat}, (10 - x2.toInt).toNat < m → 0 ≤ x2.toInt → y_CI n c s M0 M → (∀ r, Post r M) → P_X9_lostInARow_2 a Post m x1 x2 M := by
  have T0 : (0 : Int32).toInt = 0 := rfl; have T1 : (1 : Int32).toInt = 1 := rfl; have T4 : (4 : Int32).toInt = 4 := rfl; have T10 : (10 : Int32).toInt = 10 := rfl; have T30 : (30 : Int32).toInt = 30 := rfl; have T200 : (200 : Int32).toInt = 200 := rfl; have T400 : (400 : Int32).toInt = 400 := rfl
  rcases ha with rfl | rfl | rfl | rfl <;> (
    intro m
    induction m with
    | zero =>
      intro x1 x2 M _ _ hm
      omega
    | succ m ih =>
      intro x1 x2 M c s hm f0 I k
      refine And.intro (fun c1 => ?_) (fun c1 => ?_)
      · exact k _
      · refine t_X9_isLost I (by omega) (fun x_2 => ?_)
        refine And.intro (fun c2 => ?_) (fun c2 => ?_)
        · exact k _
        · intro x_4 e_x_4
          have t_x_4 : x_4.toInt = x2.toInt + 1 := by rw [e_x_4]; exact i_add1 (by (first | omega | (simp only [Int32.not_lt, Int32.not_le, Int32.lt_iff_toInt_lt, Int32.le_iff_toInt_le] at *; omega))) (by (first | omega | (simp only [Int32.not_lt, Int32.not_le, Int32.lt_iff_toInt_lt, Int32.le_iff_toInt_le] at *; omega)))
          exact ih _ _ _ (by (first | omega | (simp only [Int32.not_lt, Int32.not_le, Int32.lt_iff_toInt_lt, Int32.le_iff_toInt_le] at *; omega))) (by (first | omega | (simp only [Int32.not_lt, Int32.not_le, Int32.lt_iff_toInt_lt, Int32.le_iff_toInt_le] at *; omega))) I k)
theorem t_X9_lostInARow {n c s : Nat} {M0 : z_Mem} {a : Nat} {p1 : Int32} {M : z_Mem} {Post : Int32 → z_Mem → Prop} (I : y_CI n c s M0 M) (ha : a = n + 12 ∨ a = n + 16 ∨ a = n + 20 ∨ a = n + 24) (k : ∀ r, Post r M) : P_X9_lostInARow a p1 M Post := by
  have T0 : (0 : Int32).toInt = 0 := rfl; have T1 : (1 : Int32).toInt = 1 := rfl; have T4 : (4 : Int32).toInt = 4 := rfl; have T10 : (10 : Int32).toInt = 10 := rfl; have T30 : (30 : Int32).toInt = 30 := rfl; have T200 : (200 : Int32).toInt = 200 := rfl; have T400 : (400 : Int32).toInt = 400 := rfl
  rcases ha with rfl | rfl | rfl | rfl <;> (
    refine Exists.intro _ (t_X9_lostInARow_2 (by omega) _ _ _ _ (Nat.lt_succ_self _) (by (first | omega | (simp only [Int32.not_lt, Int32.not_le, Int32.lt_iff_toInt_lt, Int32.le_iff_toInt_le] at *; omega))) I k))
theorem t_X9_canSendAnew {n c s : Nat} {M0 : z_Mem} {a : Nat} {p1 : Int32} {M : z_Mem} {Post : Int32 → z_Mem → Prop} (I : y_CI n c s M0 M)  (k : ∀ r, Post r M) : P_X9_canSendAnew a p1 M Post := by
  have T0 : (0 : Int32).toInt = 0 := rfl; have T1 : (1 : Int32).toInt = 1 := rfl; have T4 : (4 : Int32).toInt = 4 := rfl; have T10 : (10 : Int32).toInt = 10 := rfl; have T30 : (30 : Int32).toInt = 30 := rfl; have T200 : (200 : Int32).toInt = 200 := rfl; have T400 : (400 : Int32).toInt = 400 := rfl
  intro x_4 e_x_4
  exact k _
theorem t_X3_hasRoom {n c s : Nat} {M0 : z_Mem} {a : Nat} {M : z_Mem} {Post : Int32 → z_Mem → Prop} (I : y_CI n c s M0 M)  (k : ∀ r, Post r M) : P_X3_hasRoom a M Post := by
  have T0 : (0 : Int32).toInt = 0 := rfl; have T1 : (1 : Int32).toInt = 1 := rfl; have T4 : (4 : Int32).toInt = 4 := rfl; have T10 : (10 : Int32).toInt = 10 := rfl; have T30 : (30 : Int32).toInt = 30 := rfl; have T200 : (200 : Int32).toInt = 200 := rfl; have T400 : (400 : Int32).toInt = 400 := rfl
  refine And.intro (fun c1 => ?_) (fun c1 => ?_)
  · exact k _
  · refine And.intro (fun c2 => ?_) (fun c2 => ?_)
    · exact k _
    · exact k _
theorem t_X7_isLostByOrder {n c s : Nat} {M0 : z_Mem} {a : Nat} {p1 : Option Nat} {M : z_Mem} {Post : Int32 → z_Mem → Prop} (I : y_CI n c s M0 M) (hp : ∃ q, p1 = some q) (k : ∀ r, Post r M) : P_X7_isLostByOrder a p1 M Post := by
  have T0 : (0 : Int32).toInt = 0 := rfl; have T1 : (1 : Int32).toInt = 1 := rfl; have T4 : (4 : Int32).toInt = 4 := rfl; have T10 : (10 : Int32).toInt = 10 := rfl; have T30 : (30 : Int32).toInt = 30 := rfl; have T200 : (200 : Int32).toInt = 200 := rfl; have T400 : (400 : Int32).toInt = 400 := rfl
  obtain ⟨q, rfl⟩ := hp <;> (
    refine z_nn_of rfl ?_
    refine And.intro (fun c1 => ?_) (fun c1 => ?_)
    · exact k _
    · exact k _)
theorem t_X7_isLostByTime {n c s : Nat} {M0 : z_Mem} {a : Nat} {p1 : Option Nat} {p2 : Int32} {M : z_Mem} {Post : Int32 → z_Mem → Prop} (I : y_CI n c s M0 M) (hp : ∃ q, p1 = some q) (k : ∀ r, Post r M) : P_X7_isLostByTime a p1 p2 M Post := by
  have T0 : (0 : Int32).toInt = 0 := rfl; have T1 : (1 : Int32).toInt = 1 := rfl; have T4 : (4 : Int32).toInt = 4 := rfl; have T10 : (10 : Int32).toInt = 10 := rfl; have T30 : (30 : Int32).toInt = 30 := rfl; have T200 : (200 : Int32).toInt = 200 := rfl; have T400 : (400 : Int32).toInt = 400 := rfl
  obtain ⟨q, rfl⟩ := hp <;> (
    intro x_3 e_x_3
    refine z_nn_of rfl ?_
    refine And.intro (fun c1 => ?_) (fun c1 => ?_)
    · exact k _
    · refine And.intro (fun c2 => ?_) (fun c2 => ?_)
      · exact k _
      · exact k _)
theorem t_X7_isProbeDue {n c s : Nat} {M0 : z_Mem} {a : Nat} {p1 : Int32} {M : z_Mem} {Post : Int32 → z_Mem → Prop} (I : y_CI n c s M0 M)  (k : ∀ r, Post r M) : P_X7_isProbeDue a p1 M Post := by
  have T0 : (0 : Int32).toInt = 0 := rfl; have T1 : (1 : Int32).toInt = 1 := rfl; have T4 : (4 : Int32).toInt = 4 := rfl; have T10 : (10 : Int32).toInt = 10 := rfl; have T30 : (30 : Int32).toInt = 30 := rfl; have T200 : (200 : Int32).toInt = 200 := rfl; have T400 : (400 : Int32).toInt = 400 := rfl
  intro x_3 e_x_3
  refine And.intro (fun c1 => ?_) (fun c1 => ?_)
  · exact k _
  · refine And.intro (fun c2 => ?_) (fun c2 => ?_)
    · exact k _
    · exact k _
theorem t_X7_mostPerTick {n c s : Nat} {M0 : z_Mem} {a : Nat} {M : z_Mem} {Post : Int32 → z_Mem → Prop} (I : y_CI n c s M0 M) (ha : a = n + 32 ∨ a = n + 35) (k : ∀ r, Post r M) : P_X7_mostPerTick a M Post := by
  have T0 : (0 : Int32).toInt = 0 := rfl; have T1 : (1 : Int32).toInt = 1 := rfl; have T4 : (4 : Int32).toInt = 4 := rfl; have T10 : (10 : Int32).toInt = 10 := rfl; have T30 : (30 : Int32).toInt = 30 := rfl; have T200 : (200 : Int32).toInt = 200 := rfl; have T400 : (400 : Int32).toInt = 400 := rfl
  rcases ha with rfl | rfl <;> (
    first | refine z_nn_of (s_897_32 I.1) ?_ | refine z_nn_of (s_897_35 I.1) ?_
    intro x_4 e_x_4
    intro x_6 e_x_6
    refine And.intro (by rw [e_x_6]; exact i_max1) ?_
    exact k _)
theorem t_X7_canSend {n c s : Nat} {M0 : z_Mem} {a : Nat} {M : z_Mem} {Post : Int32 → z_Mem → Prop} (I : y_CI n c s M0 M) (ha : a = n + 32 ∨ a = n + 35) (k : ∀ r, Post r M) : P_X7_canSend a M Post := by
  have T0 : (0 : Int32).toInt = 0 := rfl; have T1 : (1 : Int32).toInt = 1 := rfl; have T4 : (4 : Int32).toInt = 4 := rfl; have T10 : (10 : Int32).toInt = 10 := rfl; have T30 : (30 : Int32).toInt = 30 := rfl; have T200 : (200 : Int32).toInt = 200 := rfl; have T400 : (400 : Int32).toInt = 400 := rfl
  rcases ha with rfl | rfl <;> (
    first | refine z_nn_of (s_897_32 I.1) ?_ | refine z_nn_of (s_897_35 I.1) ?_
    refine And.intro (fun c1 => ?_) (fun c1 => ?_)
    · exact k _
    · refine t_X7_mostPerTick I (by omega) (fun x_7 => ?_)
      refine And.intro (fun c2 => ?_) (fun c2 => ?_)
      · exact k _
      · exact k _)
theorem t_X1_isAcknowledged {n c s : Nat} {M0 : z_Mem} {p1 : Option Nat} {M : z_Mem} {Post : Int32 → z_Mem → Prop} (I : y_CI n c s M0 M) (hp : ∃ q, p1 = some q) (k : ∀ r, Post r M) : P_X1_isAcknowledged p1 M Post := by
  have T0 : (0 : Int32).toInt = 0 := rfl; have T1 : (1 : Int32).toInt = 1 := rfl; have T4 : (4 : Int32).toInt = 4 := rfl; have T10 : (10 : Int32).toInt = 10 := rfl; have T30 : (30 : Int32).toInt = 30 := rfl; have T200 : (200 : Int32).toInt = 200 := rfl; have T400 : (400 : Int32).toInt = 400 := rfl
  obtain ⟨q, rfl⟩ := hp <;> (
    refine z_nn_of rfl ?_
    refine And.intro (fun c1 => ?_) (fun c1 => ?_)
    · exact k _
    · refine And.intro (fun c2 => ?_) (fun c2 => ?_)
      · exact k _
      · exact k _)
theorem t_X9_takeOff_6 {n : Nat} {M0 : z_Mem} {a : Nat} {Post : z_Mem → Prop} (ha : a = n + 12 ∨ a = n + 16 ∨ a = n + 20 ∨ a = n + 24) : ∀ (m : Nat) (x1 : Int32) (x2 : Int32) (x3 : Int32) (M : z_Mem) {c s : Nat}, (200 - x3.toInt).toNat < m → 0 ≤ x3.toInt → y_CI n c s M0 M → (∀ M1, y_CI n c s M0 M1 → Post M1) → P_X9_takeOff_6 a Post m x1 x2 x3 M := by
  have T0 : (0 : Int32).toInt = 0 := rfl; have T1 : (1 : Int32).toInt = 1 := rfl; have T4 : (4 : Int32).toInt = 4 := rfl; have T10 : (10 : Int32).toInt = 10 := rfl; have T30 : (30 : Int32).toInt = 30 := rfl; have T200 : (200 : Int32).toInt = 200 := rfl; have T400 : (400 : Int32).toInt = 400 := rfl
  rcases ha with rfl | rfl | rfl | rfl <;> (
    intro m
    induction m with
    | zero =>
      intro x1 x2 x3 M _ _ hm
      omega
    | succ m ih =>
      intro x1 x2 x3 M c s hm f0 I k
      refine And.intro (fun c1 => ?_) (fun c1 => ?_)
      · intro M_9 e_M_9
        have I_M_9 := r_sfi I e_M_9 (by decide +kernel)
        exact k _ (r_w I_M_9 (by omega) (by omega))
      · refine And.intro (fun c2 => ?_) (fun c2 => ?_)
        · intro M_12 e_M_12
          have I_M_12 := r_sfi I e_M_12 (by decide +kernel)
          exact k _ (r_w I_M_12 (by omega) (by omega))
        · refine t_X9_isLost I (by omega) (fun x_13 => ?_)
          refine And.intro (fun c3 => ?_) (fun c3 => ?_)
          · first | refine z_nn_of (s_1160_12 I.1) ?_ | refine z_nn_of (s_1160_16 I.1) ?_ | refine z_nn_of (s_1160_20 I.1) ?_ | refine z_nn_of (s_1160_24 I.1) ?_
            refine And.intro (vp_of (L := 200) (by first | exact s_l13 I.1 | exact s_l14 I.1 | exact s_l15 I.1 | exact s_l17 I.1 | exact s_l18 I.1 | exact s_l19 I.1 | exact s_l21 I.1 | exact s_l22 I.1 | exact s_l23 I.1 | exact s_l25 I.1 | exact s_l26 I.1 | exact s_l27 I.1) (by (first | omega | (simp only [Int32.not_lt, Int32.not_le, Int32.lt_iff_toInt_lt, Int32.le_iff_toInt_le] at *; omega))) (by (first | omega | (simp only [Int32.not_lt, Int32.not_le, Int32.lt_iff_toInt_lt, Int32.le_iff_toInt_le] at *; omega)))) ?_
            refine And.intro (vp_of (L := 200) (by first | exact s_l13 I.1 | exact s_l14 I.1 | exact s_l15 I.1 | exact s_l17 I.1 | exact s_l18 I.1 | exact s_l19 I.1 | exact s_l21 I.1 | exact s_l22 I.1 | exact s_l23 I.1 | exact s_l25 I.1 | exact s_l26 I.1 | exact s_l27 I.1) (by (first | omega | (simp only [Int32.not_lt, Int32.not_le, Int32.lt_iff_toInt_lt, Int32.le_iff_toInt_le] at *; omega))) (by (first | omega | (simp only [Int32.not_lt, Int32.not_le, Int32.lt_iff_toInt_lt, Int32.le_iff_toInt_le] at *; omega)))) ?_
            intro M_5w1 e_M_5w1
            have I_M_5w1 := r_sai I e_M_5w1 (by omega)
            intro x_6w1 e_x_6w1
            have t_x_6w1 : x_6w1.toInt = x3.toInt + 1 := by rw [e_x_6w1]; exact i_add1 (by (first | omega | (simp only [Int32.not_lt, Int32.not_le, Int32.lt_iff_toInt_lt, Int32.le_iff_toInt_le] at *; omega))) (by (first | omega | (simp only [Int32.not_lt, Int32.not_le, Int32.lt_iff_toInt_lt, Int32.le_iff_toInt_le] at *; omega)))
            exact ih _ _ _ _ (by (first | omega | (simp only [Int32.not_lt, Int32.not_le, Int32.lt_iff_toInt_lt, Int32.le_iff_toInt_le] at *; omega))) (by (first | omega | (simp only [Int32.not_lt, Int32.not_le, Int32.lt_iff_toInt_lt, Int32.le_iff_toInt_le] at *; omega))) (r_w I_M_5w1 (by omega) (by omega)) k
          · intro M_16 e_M_16
            have I_M_16 := r_sfi I e_M_16 (by decide +kernel)
            first | refine z_nn_of (s_1160_12 I_M_16.1) ?_ | refine z_nn_of (s_1160_16 I_M_16.1) ?_ | refine z_nn_of (s_1160_20 I_M_16.1) ?_ | refine z_nn_of (s_1160_24 I_M_16.1) ?_
            refine And.intro (vp_of (L := 200) (by first | exact s_l13 I_M_16.1 | exact s_l14 I_M_16.1 | exact s_l15 I_M_16.1 | exact s_l17 I_M_16.1 | exact s_l18 I_M_16.1 | exact s_l19 I_M_16.1 | exact s_l21 I_M_16.1 | exact s_l22 I_M_16.1 | exact s_l23 I_M_16.1 | exact s_l25 I_M_16.1 | exact s_l26 I_M_16.1 | exact s_l27 I_M_16.1) (by (first | omega | (simp only [Int32.not_lt, Int32.not_le, Int32.lt_iff_toInt_lt, Int32.le_iff_toInt_le] at *; omega))) (by (first | omega | (simp only [Int32.not_lt, Int32.not_le, Int32.lt_iff_toInt_lt, Int32.le_iff_toInt_le] at *; omega)))) ?_
            refine And.intro (vp_of (L := 200) (by first | exact s_l13 I_M_16.1 | exact s_l14 I_M_16.1 | exact s_l15 I_M_16.1 | exact s_l17 I_M_16.1 | exact s_l18 I_M_16.1 | exact s_l19 I_M_16.1 | exact s_l21 I_M_16.1 | exact s_l22 I_M_16.1 | exact s_l23 I_M_16.1 | exact s_l25 I_M_16.1 | exact s_l26 I_M_16.1 | exact s_l27 I_M_16.1) (by (first | omega | (simp only [Int32.not_lt, Int32.not_le, Int32.lt_iff_toInt_lt, Int32.le_iff_toInt_le] at *; omega))) (by (first | omega | (simp only [Int32.not_lt, Int32.not_le, Int32.lt_iff_toInt_lt, Int32.le_iff_toInt_le] at *; omega)))) ?_
            intro M_5w2 e_M_5w2
            have I_M_5w2 := r_sai I_M_16 e_M_5w2 (by omega)
            intro x_6w2 e_x_6w2
            have t_x_6w2 : x_6w2.toInt = x3.toInt + 1 := by rw [e_x_6w2]; exact i_add1 (by (first | omega | (simp only [Int32.not_lt, Int32.not_le, Int32.lt_iff_toInt_lt, Int32.le_iff_toInt_le] at *; omega))) (by (first | omega | (simp only [Int32.not_lt, Int32.not_le, Int32.lt_iff_toInt_lt, Int32.le_iff_toInt_le] at *; omega)))
            exact ih _ _ _ _ (by (first | omega | (simp only [Int32.not_lt, Int32.not_le, Int32.lt_iff_toInt_lt, Int32.le_iff_toInt_le] at *; omega))) (by (first | omega | (simp only [Int32.not_lt, Int32.not_le, Int32.lt_iff_toInt_lt, Int32.le_iff_toInt_le] at *; omega))) (r_w I_M_5w2 (by omega) (by omega)) k)
theorem t_X9_takeOff {n c s : Nat} {M0 : z_Mem} {a : Nat} {p1 : Int32} {p2 : Int32} {M : z_Mem} {Post : z_Mem → Prop} (I : y_CI n c s M0 M) (ha : a = n + 12 ∨ a = n + 16 ∨ a = n + 20 ∨ a = n + 24) (k : ∀ M1, y_CI n c s M0 M1 → Post M1) : P_X9_takeOff a p1 p2 M Post := by
  have T0 : (0 : Int32).toInt = 0 := rfl; have T1 : (1 : Int32).toInt = 1 := rfl; have T4 : (4 : Int32).toInt = 4 := rfl; have T10 : (10 : Int32).toInt = 10 := rfl; have T30 : (30 : Int32).toInt = 30 := rfl; have T200 : (200 : Int32).toInt = 200 := rfl; have T400 : (400 : Int32).toInt = 400 := rfl
  rcases ha with rfl | rfl | rfl | rfl <;> (
    intro x_17 e_x_17
    have t_x_17 : 0 ≤ x_17.toInt := by rw [e_x_17]; exact i_max0
    refine Exists.intro _ (t_X9_takeOff_6 (by omega) _ _ _ _ _ (Nat.lt_succ_self _) (by (first | omega | (simp only [Int32.not_lt, Int32.not_le, Int32.lt_iff_toInt_lt, Int32.le_iff_toInt_le] at *; omega))) (r_w I (by omega) (by omega)) k))
theorem t_X9_land_6 {n : Nat} {M0 : z_Mem} {a : Nat} {Post : z_Mem → Prop} (ha : a = n + 12 ∨ a = n + 16 ∨ a = n + 20 ∨ a = n + 24) : ∀ (m : Nat) (x1 : Int32) (x2 : Int32) (x3 : Int32) (M : z_Mem) {c s : Nat}, (200 - x3.toInt).toNat < m → 0 ≤ x3.toInt → y_CI n c s M0 M → (∀ M1, y_CI n c s M0 M1 → Post M1) → P_X9_land_6 a Post m x1 x2 x3 M := by
  have T0 : (0 : Int32).toInt = 0 := rfl; have T1 : (1 : Int32).toInt = 1 := rfl; have T4 : (4 : Int32).toInt = 4 := rfl; have T10 : (10 : Int32).toInt = 10 := rfl; have T30 : (30 : Int32).toInt = 30 := rfl; have T200 : (200 : Int32).toInt = 200 := rfl; have T400 : (400 : Int32).toInt = 400 := rfl
  rcases ha with rfl | rfl | rfl | rfl <;> (
    intro m
    induction m with
    | zero =>
      intro x1 x2 x3 M _ _ hm
      omega
    | succ m ih =>
      intro x1 x2 x3 M c s hm f0 I k
      refine And.intro (fun c1 => ?_) (fun c1 => ?_)
      · exact k _ (r_w I (by omega) (by omega))
      · refine And.intro (fun c2 => ?_) (fun c2 => ?_)
        · exact k _ (r_w I (by omega) (by omega))
        · first | refine z_nn_of (s_1160_12 I.1) ?_ | refine z_nn_of (s_1160_16 I.1) ?_ | refine z_nn_of (s_1160_20 I.1) ?_ | refine z_nn_of (s_1160_24 I.1) ?_
          refine And.intro (vp_of (L := 200) (by first | exact s_l13 I.1 | exact s_l14 I.1 | exact s_l15 I.1 | exact s_l17 I.1 | exact s_l18 I.1 | exact s_l19 I.1 | exact s_l21 I.1 | exact s_l22 I.1 | exact s_l23 I.1 | exact s_l25 I.1 | exact s_l26 I.1 | exact s_l27 I.1) (by (first | omega | (simp only [Int32.not_lt, Int32.not_le, Int32.lt_iff_toInt_lt, Int32.le_iff_toInt_le] at *; omega))) (by (first | omega | (simp only [Int32.not_lt, Int32.not_le, Int32.lt_iff_toInt_lt, Int32.le_iff_toInt_le] at *; omega)))) ?_
          refine And.intro (vp_of (L := 200) (by first | exact s_l13 I.1 | exact s_l14 I.1 | exact s_l15 I.1 | exact s_l17 I.1 | exact s_l18 I.1 | exact s_l19 I.1 | exact s_l21 I.1 | exact s_l22 I.1 | exact s_l23 I.1 | exact s_l25 I.1 | exact s_l26 I.1 | exact s_l27 I.1) (by (first | omega | (simp only [Int32.not_lt, Int32.not_le, Int32.lt_iff_toInt_lt, Int32.le_iff_toInt_le] at *; omega))) (by (first | omega | (simp only [Int32.not_lt, Int32.not_le, Int32.lt_iff_toInt_lt, Int32.le_iff_toInt_le] at *; omega)))) ?_
          intro M_8 e_M_8
          have I_M_8 := r_sai I e_M_8 (by omega)
          refine t_X9_isLost I_M_8 (by omega) (fun x_9 => ?_)
          refine And.intro (fun c3 => ?_) (fun c3 => ?_)
          · intro x_1w1 e_x_1w1
            have t_x_1w1 : x_1w1.toInt = x3.toInt + 1 := by rw [e_x_1w1]; exact i_add1 (by (first | omega | (simp only [Int32.not_lt, Int32.not_le, Int32.lt_iff_toInt_lt, Int32.le_iff_toInt_le] at *; omega))) (by (first | omega | (simp only [Int32.not_lt, Int32.not_le, Int32.lt_iff_toInt_lt, Int32.le_iff_toInt_le] at *; omega)))
            exact ih _ _ _ _ (by (first | omega | (simp only [Int32.not_lt, Int32.not_le, Int32.lt_iff_toInt_lt, Int32.le_iff_toInt_le] at *; omega))) (by (first | omega | (simp only [Int32.not_lt, Int32.not_le, Int32.lt_iff_toInt_lt, Int32.le_iff_toInt_le] at *; omega))) (r_w I_M_8 (by omega) (by omega)) k
          · intro M_12 e_M_12
            have I_M_12 := r_sfi I_M_8 e_M_12 (by decide +kernel)
            intro x_1w2 e_x_1w2
            have t_x_1w2 : x_1w2.toInt = x3.toInt + 1 := by rw [e_x_1w2]; exact i_add1 (by (first | omega | (simp only [Int32.not_lt, Int32.not_le, Int32.lt_iff_toInt_lt, Int32.le_iff_toInt_le] at *; omega))) (by (first | omega | (simp only [Int32.not_lt, Int32.not_le, Int32.lt_iff_toInt_lt, Int32.le_iff_toInt_le] at *; omega)))
            exact ih _ _ _ _ (by (first | omega | (simp only [Int32.not_lt, Int32.not_le, Int32.lt_iff_toInt_lt, Int32.le_iff_toInt_le] at *; omega))) (by (first | omega | (simp only [Int32.not_lt, Int32.not_le, Int32.lt_iff_toInt_lt, Int32.le_iff_toInt_le] at *; omega))) (r_w I_M_12 (by omega) (by omega)) k)
theorem t_X9_land {n c s : Nat} {M0 : z_Mem} {a : Nat} {p1 : Int32} {p2 : Int32} {M : z_Mem} {Post : z_Mem → Prop} (I : y_CI n c s M0 M) (ha : a = n + 12 ∨ a = n + 16 ∨ a = n + 20 ∨ a = n + 24) (k : ∀ M1, y_CI n c s M0 M1 → Post M1) : P_X9_land a p1 p2 M Post := by
  have T0 : (0 : Int32).toInt = 0 := rfl; have T1 : (1 : Int32).toInt = 1 := rfl; have T4 : (4 : Int32).toInt = 4 := rfl; have T10 : (10 : Int32).toInt = 10 := rfl; have T30 : (30 : Int32).toInt = 30 := rfl; have T200 : (200 : Int32).toInt = 200 := rfl; have T400 : (400 : Int32).toInt = 400 := rfl
  rcases ha with rfl | rfl | rfl | rfl <;> (
    intro x_13 e_x_13
    have t_x_13 : 0 ≤ x_13.toInt := by rw [e_x_13]; exact i_max0
    refine Exists.intro _ (t_X9_land_6 (by omega) _ _ _ _ _ (Nat.lt_succ_self _) (by (first | omega | (simp only [Int32.not_lt, Int32.not_le, Int32.lt_iff_toInt_lt, Int32.le_iff_toInt_le] at *; omega))) (r_w I (by omega) (by omega)) k))
theorem t_X9_acknowledge_6 {n : Nat} {M0 : z_Mem} {a : Nat} {Post : z_Mem → Prop} (ha : a = n + 12 ∨ a = n + 16 ∨ a = n + 20 ∨ a = n + 24) : ∀ (m : Nat) (x1 : Int32) (x2 : Int32) (x3 : Int32) (M : z_Mem) {c s : Nat}, (200 - x3.toInt).toNat < m → 0 ≤ x3.toInt → y_CI n c s M0 M → (∀ M1, y_CI n c s M0 M1 → Post M1) → P_X9_acknowledge_6 a Post m x1 x2 x3 M := by
  have T0 : (0 : Int32).toInt = 0 := rfl; have T1 : (1 : Int32).toInt = 1 := rfl; have T4 : (4 : Int32).toInt = 4 := rfl; have T10 : (10 : Int32).toInt = 10 := rfl; have T30 : (30 : Int32).toInt = 30 := rfl; have T200 : (200 : Int32).toInt = 200 := rfl; have T400 : (400 : Int32).toInt = 400 := rfl
  rcases ha with rfl | rfl | rfl | rfl <;> (
    intro m
    induction m with
    | zero =>
      intro x1 x2 x3 M _ _ hm
      omega
    | succ m ih =>
      intro x1 x2 x3 M c s hm f0 I k
      refine And.intro (fun c1 => ?_) (fun c1 => ?_)
      · exact k _ (r_w I (by omega) (by omega))
      · refine And.intro (fun c2 => ?_) (fun c2 => ?_)
        · exact k _ (r_w I (by omega) (by omega))
        · refine t_X9_isLost I (by omega) (fun x_14 => ?_)
          refine And.intro (fun c3 => ?_) (fun c3 => ?_)
          · first | refine z_nn_of (s_1159_12 I.1) ?_ | refine z_nn_of (s_1159_16 I.1) ?_ | refine z_nn_of (s_1159_20 I.1) ?_ | refine z_nn_of (s_1159_24 I.1) ?_
            refine And.intro (vp_of (L := 200) (by first | exact s_l13 I.1 | exact s_l14 I.1 | exact s_l15 I.1 | exact s_l17 I.1 | exact s_l18 I.1 | exact s_l19 I.1 | exact s_l21 I.1 | exact s_l22 I.1 | exact s_l23 I.1 | exact s_l25 I.1 | exact s_l26 I.1 | exact s_l27 I.1) (by (first | omega | (simp only [Int32.not_lt, Int32.not_le, Int32.lt_iff_toInt_lt, Int32.le_iff_toInt_le] at *; omega))) (by (first | omega | (simp only [Int32.not_lt, Int32.not_le, Int32.lt_iff_toInt_lt, Int32.le_iff_toInt_le] at *; omega)))) ?_
            refine And.intro (fun c4 => ?_) (fun c4 => ?_)
            · first | refine z_nn_of (s_1159_12 I.1) ?_ | refine z_nn_of (s_1159_16 I.1) ?_ | refine z_nn_of (s_1159_20 I.1) ?_ | refine z_nn_of (s_1159_24 I.1) ?_
              refine And.intro (vp_of (L := 200) (by first | exact s_l13 I.1 | exact s_l14 I.1 | exact s_l15 I.1 | exact s_l17 I.1 | exact s_l18 I.1 | exact s_l19 I.1 | exact s_l21 I.1 | exact s_l22 I.1 | exact s_l23 I.1 | exact s_l25 I.1 | exact s_l26 I.1 | exact s_l27 I.1) (by (first | omega | (simp only [Int32.not_lt, Int32.not_le, Int32.lt_iff_toInt_lt, Int32.le_iff_toInt_le] at *; omega))) (by (first | omega | (simp only [Int32.not_lt, Int32.not_le, Int32.lt_iff_toInt_lt, Int32.le_iff_toInt_le] at *; omega)))) ?_
              intro M_9w1 e_M_9w1
              have I_M_9w1 := r_sai I e_M_9w1 (by omega)
              intro M_11w1 e_M_11w1
              have I_M_11w1 := r_sfi I_M_9w1 e_M_11w1 (by decide +kernel)
              intro x_1w2 e_x_1w2
              have t_x_1w2 : x_1w2.toInt = x3.toInt + 1 := by rw [e_x_1w2]; exact i_add1 (by (first | omega | (simp only [Int32.not_lt, Int32.not_le, Int32.lt_iff_toInt_lt, Int32.le_iff_toInt_le] at *; omega))) (by (first | omega | (simp only [Int32.not_lt, Int32.not_le, Int32.lt_iff_toInt_lt, Int32.le_iff_toInt_le] at *; omega)))
              exact ih _ _ _ _ (by (first | omega | (simp only [Int32.not_lt, Int32.not_le, Int32.lt_iff_toInt_lt, Int32.le_iff_toInt_le] at *; omega))) (by (first | omega | (simp only [Int32.not_lt, Int32.not_le, Int32.lt_iff_toInt_lt, Int32.le_iff_toInt_le] at *; omega))) (r_w I_M_11w1 (by omega) (by omega)) k
            · intro x_1w3 e_x_1w3
              have t_x_1w3 : x_1w3.toInt = x3.toInt + 1 := by rw [e_x_1w3]; exact i_add1 (by (first | omega | (simp only [Int32.not_lt, Int32.not_le, Int32.lt_iff_toInt_lt, Int32.le_iff_toInt_le] at *; omega))) (by (first | omega | (simp only [Int32.not_lt, Int32.not_le, Int32.lt_iff_toInt_lt, Int32.le_iff_toInt_le] at *; omega)))
              exact ih _ _ _ _ (by (first | omega | (simp only [Int32.not_lt, Int32.not_le, Int32.lt_iff_toInt_lt, Int32.le_iff_toInt_le] at *; omega))) (by (first | omega | (simp only [Int32.not_lt, Int32.not_le, Int32.lt_iff_toInt_lt, Int32.le_iff_toInt_le] at *; omega))) (r_w I (by omega) (by omega)) k
          · intro M_17 e_M_17
            have I_M_17 := r_sfi I e_M_17 (by decide +kernel)
            first | refine z_nn_of (s_1159_12 I_M_17.1) ?_ | refine z_nn_of (s_1159_16 I_M_17.1) ?_ | refine z_nn_of (s_1159_20 I_M_17.1) ?_ | refine z_nn_of (s_1159_24 I_M_17.1) ?_
            refine And.intro (vp_of (L := 200) (by first | exact s_l13 I_M_17.1 | exact s_l14 I_M_17.1 | exact s_l15 I_M_17.1 | exact s_l17 I_M_17.1 | exact s_l18 I_M_17.1 | exact s_l19 I_M_17.1 | exact s_l21 I_M_17.1 | exact s_l22 I_M_17.1 | exact s_l23 I_M_17.1 | exact s_l25 I_M_17.1 | exact s_l26 I_M_17.1 | exact s_l27 I_M_17.1) (by (first | omega | (simp only [Int32.not_lt, Int32.not_le, Int32.lt_iff_toInt_lt, Int32.le_iff_toInt_le] at *; omega))) (by (first | omega | (simp only [Int32.not_lt, Int32.not_le, Int32.lt_iff_toInt_lt, Int32.le_iff_toInt_le] at *; omega)))) ?_
            refine And.intro (fun c5 => ?_) (fun c5 => ?_)
            · first | refine z_nn_of (s_1159_12 I_M_17.1) ?_ | refine z_nn_of (s_1159_16 I_M_17.1) ?_ | refine z_nn_of (s_1159_20 I_M_17.1) ?_ | refine z_nn_of (s_1159_24 I_M_17.1) ?_
              refine And.intro (vp_of (L := 200) (by first | exact s_l13 I_M_17.1 | exact s_l14 I_M_17.1 | exact s_l15 I_M_17.1 | exact s_l17 I_M_17.1 | exact s_l18 I_M_17.1 | exact s_l19 I_M_17.1 | exact s_l21 I_M_17.1 | exact s_l22 I_M_17.1 | exact s_l23 I_M_17.1 | exact s_l25 I_M_17.1 | exact s_l26 I_M_17.1 | exact s_l27 I_M_17.1) (by (first | omega | (simp only [Int32.not_lt, Int32.not_le, Int32.lt_iff_toInt_lt, Int32.le_iff_toInt_le] at *; omega))) (by (first | omega | (simp only [Int32.not_lt, Int32.not_le, Int32.lt_iff_toInt_lt, Int32.le_iff_toInt_le] at *; omega)))) ?_
              intro M_9w4 e_M_9w4
              have I_M_9w4 := r_sai I_M_17 e_M_9w4 (by omega)
              intro M_11w4 e_M_11w4
              have I_M_11w4 := r_sfi I_M_9w4 e_M_11w4 (by decide +kernel)
              intro x_1w5 e_x_1w5
              have t_x_1w5 : x_1w5.toInt = x3.toInt + 1 := by rw [e_x_1w5]; exact i_add1 (by (first | omega | (simp only [Int32.not_lt, Int32.not_le, Int32.lt_iff_toInt_lt, Int32.le_iff_toInt_le] at *; omega))) (by (first | omega | (simp only [Int32.not_lt, Int32.not_le, Int32.lt_iff_toInt_lt, Int32.le_iff_toInt_le] at *; omega)))
              exact ih _ _ _ _ (by (first | omega | (simp only [Int32.not_lt, Int32.not_le, Int32.lt_iff_toInt_lt, Int32.le_iff_toInt_le] at *; omega))) (by (first | omega | (simp only [Int32.not_lt, Int32.not_le, Int32.lt_iff_toInt_lt, Int32.le_iff_toInt_le] at *; omega))) (r_w I_M_11w4 (by omega) (by omega)) k
            · intro x_1w6 e_x_1w6
              have t_x_1w6 : x_1w6.toInt = x3.toInt + 1 := by rw [e_x_1w6]; exact i_add1 (by (first | omega | (simp only [Int32.not_lt, Int32.not_le, Int32.lt_iff_toInt_lt, Int32.le_iff_toInt_le] at *; omega))) (by (first | omega | (simp only [Int32.not_lt, Int32.not_le, Int32.lt_iff_toInt_lt, Int32.le_iff_toInt_le] at *; omega)))
              exact ih _ _ _ _ (by (first | omega | (simp only [Int32.not_lt, Int32.not_le, Int32.lt_iff_toInt_lt, Int32.le_iff_toInt_le] at *; omega))) (by (first | omega | (simp only [Int32.not_lt, Int32.not_le, Int32.lt_iff_toInt_lt, Int32.le_iff_toInt_le] at *; omega))) (r_w I_M_17 (by omega) (by omega)) k)
theorem t_X9_acknowledge {n c s : Nat} {M0 : z_Mem} {a : Nat} {p1 : Int32} {p2 : Int32} {M : z_Mem} {Post : z_Mem → Prop} (I : y_CI n c s M0 M) (ha : a = n + 12 ∨ a = n + 16 ∨ a = n + 20 ∨ a = n + 24) (k : ∀ M1, y_CI n c s M0 M1 → Post M1) : P_X9_acknowledge a p1 p2 M Post := by
  have T0 : (0 : Int32).toInt = 0 := rfl; have T1 : (1 : Int32).toInt = 1 := rfl; have T4 : (4 : Int32).toInt = 4 := rfl; have T10 : (10 : Int32).toInt = 10 := rfl; have T30 : (30 : Int32).toInt = 30 := rfl; have T200 : (200 : Int32).toInt = 200 := rfl; have T400 : (400 : Int32).toInt = 400 := rfl
  rcases ha with rfl | rfl | rfl | rfl <;> (
    intro x_18 e_x_18
    have t_x_18 : 0 ≤ x_18.toInt := by rw [e_x_18]; exact i_max0
    refine Exists.intro _ (t_X9_acknowledge_6 (by omega) _ _ _ _ _ (Nat.lt_succ_self _) (by (first | omega | (simp only [Int32.not_lt, Int32.not_le, Int32.lt_iff_toInt_lt, Int32.le_iff_toInt_le] at *; omega))) (r_w I (by omega) (by omega)) k))
theorem t_X3_letsToServer {n c s : Nat} {M0 : z_Mem} {a : Nat} {M : z_Mem} {Post : Int32 → z_Mem → Prop} (I : y_CI n c s M0 M) (ha : a = n + 2 ∨ a = n + 4) (k : ∀ r M1, y_CI n c s M0 M1 → Post r M1) : P_X3_letsToServer a M Post := by
  have T0 : (0 : Int32).toInt = 0 := rfl; have T1 : (1 : Int32).toInt = 1 := rfl; have T4 : (4 : Int32).toInt = 4 := rfl; have T10 : (10 : Int32).toInt = 10 := rfl; have T30 : (30 : Int32).toInt = 30 := rfl; have T200 : (200 : Int32).toInt = 200 := rfl; have T400 : (400 : Int32).toInt = 400 := rfl
  rcases ha with rfl | rfl <;> (
    refine And.intro (fun c1 => ?_) (fun c1 => ?_)
    · exact k _ _ (r_w I (by omega) (by omega))
    · refine And.intro (fun c2 => ?_) (fun c2 => ?_)
      · refine t_X3_hasRoom I (fun x_5 => ?_)
        exact k _ _ (r_w I (by omega) (by omega))
      · intro M_7 e_M_7
        have I_M_7 := r_sfi I e_M_7 (by decide +kernel)
        exact k _ _ (r_w I_M_7 (by omega) (by omega)))
theorem t_X3_letsToClient {n c s : Nat} {M0 : z_Mem} {a : Nat} {M : z_Mem} {Post : Int32 → z_Mem → Prop} (I : y_CI n c s M0 M) (ha : a = n + 2 ∨ a = n + 4) (k : ∀ r M1, y_CI n c s M0 M1 → Post r M1) : P_X3_letsToClient a M Post := by
  have T0 : (0 : Int32).toInt = 0 := rfl; have T1 : (1 : Int32).toInt = 1 := rfl; have T4 : (4 : Int32).toInt = 4 := rfl; have T10 : (10 : Int32).toInt = 10 := rfl; have T30 : (30 : Int32).toInt = 30 := rfl; have T200 : (200 : Int32).toInt = 200 := rfl; have T400 : (400 : Int32).toInt = 400 := rfl
  rcases ha with rfl | rfl <;> (
    refine And.intro (fun c1 => ?_) (fun c1 => ?_)
    · exact k _ _ (r_w I (by omega) (by omega))
    · refine And.intro (fun c2 => ?_) (fun c2 => ?_)
      · exact k _ _ (r_w I (by omega) (by omega))
      · intro M_6 e_M_6
        have I_M_6 := r_sfi I e_M_6 (by decide +kernel)
        exact k _ _ (r_w I_M_6 (by omega) (by omega)))
theorem t_X3_takeLateness {n c s : Nat} {M0 : z_Mem} {a : Nat} {M : z_Mem} {Post : Int32 → z_Mem → Prop} (I : y_CI n c s M0 M) (ha : a = n + 2 ∨ a = n + 4) (k : ∀ r M1, y_CI n c s M0 M1 → Post r M1) : P_X3_takeLateness a M Post := by
  have T0 : (0 : Int32).toInt = 0 := rfl; have T1 : (1 : Int32).toInt = 1 := rfl; have T4 : (4 : Int32).toInt = 4 := rfl; have T10 : (10 : Int32).toInt = 10 := rfl; have T30 : (30 : Int32).toInt = 30 := rfl; have T200 : (200 : Int32).toInt = 200 := rfl; have T400 : (400 : Int32).toInt = 400 := rfl
  rcases ha with rfl | rfl <;> (
    refine And.intro (fun c1 => ?_) (fun c1 => ?_)
    · intro M_4 e_M_4
      have I_M_4 := r_sfi I e_M_4 (by decide +kernel)
      exact k _ _ (r_w I_M_4 (by omega) (by omega))
    · exact k _ _ (r_w I (by omega) (by omega)))
theorem t_X2_harm {n c s : Nat} {M0 : z_Mem} {a : Nat} {p1 : Int32} {p2 : Int32} {p3 : Int32} {p4 : Int32} {M : z_Mem} {Post : z_Mem → Prop} (I : y_CI n c s M0 M) (ha : a = n + 33 ∨ a = n + 36) (k : ∀ M1, y_CI n c s M0 M1 → Post M1) : P_X2_harm a p1 p2 p3 p4 M Post := by
  have T0 : (0 : Int32).toInt = 0 := rfl; have T1 : (1 : Int32).toInt = 1 := rfl; have T4 : (4 : Int32).toInt = 4 := rfl; have T10 : (10 : Int32).toInt = 10 := rfl; have T30 : (30 : Int32).toInt = 30 := rfl; have T200 : (200 : Int32).toInt = 200 := rfl; have T400 : (400 : Int32).toInt = 400 := rfl
  rcases ha with rfl | rfl <;> (
    refine And.intro (fun c1 => ?_) (fun c1 => ?_)
    · intro M_4 e_M_4
      have I_M_4 := r_sfi I e_M_4 (by decide +kernel)
      intro M_6 e_M_6
      have I_M_6 := r_sfi I_M_4 e_M_6 (by decide +kernel)
      intro M_8 e_M_8
      have I_M_8 := r_sfi I_M_6 e_M_8 (by decide +kernel)
      intro M_9 e_M_9
      have I_M_9 := r_sfi I_M_8 e_M_9 (by decide +kernel)
      intro M_10 e_M_10
      have I_M_10 := r_sfi I_M_9 e_M_10 (by decide +kernel)
      intro M_11 e_M_11
      have I_M_11 := r_sfi I_M_10 e_M_11 (by decide +kernel)
      refine And.intro (fun c2 => ?_) (fun c2 => ?_)
      · exact k _ (r_w I_M_11 (by omega) (by omega))
      · refine And.intro (fun c3 => ?_) (fun c3 => ?_)
        · intro M_21 e_M_21
          have I_M_21 := r_sfi I_M_11 e_M_21 (by decide +kernel)
          intro M_23 e_M_23
          have I_M_23 := r_sfi I_M_21 e_M_23 (by decide +kernel)
          exact k _ (r_w I_M_23 (by omega) (by omega))
        · intro M_17 e_M_17
          have I_M_17 := r_sfi I_M_11 e_M_17 (by decide +kernel)
          intro M_19 e_M_19
          have I_M_19 := r_sfi I_M_17 e_M_19 (by decide +kernel)
          exact k _ (r_w I_M_19 (by omega) (by omega))
    · exact k _ (r_w I (by omega) (by omega)))
theorem t_X2_takeBackHarm {n c s : Nat} {M0 : z_Mem} {a : Nat} {p1 : Int32} {M : z_Mem} {Post : z_Mem → Prop} (I : y_CI n c s M0 M) (ha : a = n + 33 ∨ a = n + 36) (k : ∀ M1, y_CI n c s M0 M1 → Post M1) : P_X2_takeBackHarm a p1 M Post := by
  have T0 : (0 : Int32).toInt = 0 := rfl; have T1 : (1 : Int32).toInt = 1 := rfl; have T4 : (4 : Int32).toInt = 4 := rfl; have T10 : (10 : Int32).toInt = 10 := rfl; have T30 : (30 : Int32).toInt = 30 := rfl; have T200 : (200 : Int32).toInt = 200 := rfl; have T400 : (400 : Int32).toInt = 400 := rfl
  rcases ha with rfl | rfl <;> (
    refine And.intro (fun c1 => ?_) (fun c1 => ?_)
    · intro M_3 e_M_3
      have I_M_3 := r_sfi I e_M_3 (by decide +kernel)
      intro M_6 e_M_6
      have I_M_6 := r_sfi I_M_3 e_M_6 (by decide +kernel)
      intro M_9 e_M_9
      have I_M_9 := r_sfi I_M_6 e_M_9 (by decide +kernel)
      exact k _ (r_w I_M_9 (by omega) (by omega))
    · exact k _ (r_w I (by omega) (by omega)))
theorem t_X7_measure {n c s : Nat} {M0 : z_Mem} {a : Nat} {p1 : Int32} {M : z_Mem} {Post : z_Mem → Prop} (I : y_CI n c s M0 M) (ha : a = n + 32 ∨ a = n + 35) (k : ∀ M1, y_CI n c s M0 M1 → Post M1) : P_X7_measure a p1 M Post := by
  have T0 : (0 : Int32).toInt = 0 := rfl; have T1 : (1 : Int32).toInt = 1 := rfl; have T4 : (4 : Int32).toInt = 4 := rfl; have T10 : (10 : Int32).toInt = 10 := rfl; have T30 : (30 : Int32).toInt = 30 := rfl; have T200 : (200 : Int32).toInt = 200 := rfl; have T400 : (400 : Int32).toInt = 400 := rfl
  rcases ha with rfl | rfl <;> (
    intro M_1 e_M_1
    have I_M_1 := r_sfi I e_M_1 (by decide +kernel)
    refine And.intro (fun c1 => ?_) (fun c1 => ?_)
    · intro M_4 e_M_4
      have I_M_4 := r_sfi I_M_1 e_M_4 (by decide +kernel)
      intro M_5 e_M_5
      have I_M_5 := r_sfi I_M_4 e_M_5 (by decide +kernel)
      intro M_6 e_M_6
      have I_M_6 := r_sfi I_M_5 e_M_6 (by decide +kernel)
      intro M_7 e_M_7
      have I_M_7 := r_sfi I_M_6 e_M_7 (by decide +kernel)
      exact k _ (r_w I_M_7 (by omega) (by omega))
    · intro M_9 e_M_9
      have I_M_9 := r_sfi I_M_1 e_M_9 (by decide +kernel)
      intro M_13 e_M_13
      have I_M_13 := r_sfi I_M_9 e_M_13 (by decide +kernel)
      intro M_16 e_M_16
      have I_M_16 := r_sfi I_M_13 e_M_16 (by decide +kernel)
      exact k _ (r_w I_M_16 (by omega) (by omega)))
