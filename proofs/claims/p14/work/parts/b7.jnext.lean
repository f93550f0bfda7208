/-! ===== THE LIKENESS: what is sent next ===== -/
section JNX
variable {n : Nat} {M M0 M1 M2 M3 : z_Mem} {r r1 r2 : q_R} {TL CL : List Nat} {t s q z : Nat}
theorem q_bix2 {sN k : Nat} (h1 : sN < 4) (h2 : k < 2000) : (200 * nI sN + nI k : Int32).toNatClampNeg = 200 * sN + k := jN_of (by
  rw [i_addE (i_mulE (show (200 : Int32).toInt = 200 from rfl) (jI_t (show sN < 2147483648 by omega)) (by omega) (by omega)) (jI_t (show k < 2147483648 by omega)) (by omega) (by omega)]; omega)
theorem q_isL {sN j : Nat} (hs : sN < 4) (hj : j < 1000) : qF_isLost (nI sN) (nI j) r = (if j_lost r sN j = true then 1 else 0, r) := by
  have hQ := qE_isLost (nI sN) (nI j) r
  rw [jI_N (by omega : sN < 2147483648), q_bix2 hs (by omega)] at hQ
  unfold j_lost
  by_cases c : r.2 67 sN ≤ nI j
  · rw [if_pos c] at hQ
    rw [Int32.le_iff_toInt_le, jI_t (by omega)] at c
    rw [decide_eq_false (fun h => by have := h.1; omega)]
    exact hQ
  · rw [if_neg c] at hQ
    rw [Int32.le_iff_toInt_le, jI_t (by omega)] at c
    by_cases c2 : r.2 69 (200 * sN + j) = 0
    · rw [if_pos c2] at hQ
      by_cases c3 : r.2 70 (200 * sN + j) = 0
      · rw [if_pos c3] at hQ
        rw [decide_eq_true ⟨by omega, c2, c3⟩]
        exact hQ
      · rw [if_neg c3] at hQ
        rw [decide_eq_false (fun h => c3 h.2.2)]
        exact hQ
    · rw [if_neg c2] at hQ
      rw [decide_eq_false (fun h => c2 h.2.1)]
      exact hQ
theorem j_lost67 {sN j : Nat} (h : j_lost r sN j = true) : (j : Int) < (r.2 67 sN).toInt := (of_decide_eq_true h).1
/-- the first lost byte, the reference's side -/
theorem q_fL2 {sN : Nat} (hs : sN < 4) (h67 : (r.2 67 sN).toInt ≤ 200) : ∀ m j, j + m = 201 → (∀ i, i < j → j_lost r sN i = false) → ((∀ i, i < 1000 → j_lost r sN i = false) ∧ qF_firstLost_2 (nI sN) (nI j) r = (-1, r)) ∨ (∃ f, f < 200 ∧ j_lost r sN f = true ∧ (∀ i, i < f → j_lost r sN i = false) ∧ qF_firstLost_2 (nI sN) (nI j) r = (nI f, r)) := by
  intro m
  induction m with
  | zero =>
    intro j hj hi
    refine Or.inl ⟨fun i _ => ?_, ?_⟩
    · by_cases c : j_lost r sN i = true
      · have := j_lost67 c
        exact hi i (by omega)
      · exact Bool.eq_false_iff.mpr c
    · have hQ := qE_firstLost_2 (nI sN) (nI j) r
      rw [jI_N (by omega : sN < 2147483648), if_pos (by rw [Int32.le_iff_toInt_le, jI_t (by omega)]; omega)] at hQ
      exact qUr_firstLost_2 hQ
  | succ m ih =>
    intro j hj hi
    have hQ := qE_firstLost_2 (nI sN) (nI j) r
    rw [jI_N (by omega : sN < 2147483648)] at hQ
    by_cases c : r.2 67 sN ≤ nI j
    · rw [if_pos c] at hQ
      rw [Int32.le_iff_toInt_le, jI_t (by omega)] at c
      refine Or.inl ⟨fun i _ => ?_, qUr_firstLost_2 hQ⟩
      by_cases c2 : j_lost r sN i = true
      · have := j_lost67 c2
        exact hi i (by omega)
      · exact Bool.eq_false_iff.mpr c2
    · rw [if_neg c] at hQ
      rw [Int32.le_iff_toInt_le, jI_t (by omega)] at c
      replace hQ := hQ.trans (q_ste2 (q_isL hs (by omega)))
      by_cases c2 : j_lost r sN j = true
      · rw [if_pos c2, if_neg (by decide)] at hQ
        exact Or.inr ⟨j, by omega, c2, hi, qUr_firstLost_2 hQ⟩
      · rw [if_neg c2, if_pos rfl] at hQ
        have e1 : nI (j + 1) = nI j + 1 := by rw [jI_1, jI_add (by omega)]
        replace hQ := hQ.trans (q_ste (b := nI (j + 1)) e1)
        rw [qUl_firstLost_2 hQ]
        refine ih (j + 1) (by omega) (fun i hi2 => ?_)
        by_cases ci : i = j
        · rw [ci]; exact Bool.eq_false_iff.mpr c2
        · exact hi i (by omega)
theorem q_fL {sN : Nat} (hs : sN < 4) (h67 : (r.2 67 sN).toInt ≤ 200) : ((∀ i, i < 1000 → j_lost r sN i = false) ∧ qF_firstLost (nI sN) r = (-1, r)) ∨ (∃ f, f < 200 ∧ j_lost r sN f = true ∧ (∀ i, i < f → j_lost r sN i = false) ∧ qF_firstLost (nI sN) r = (nI f, r)) := by
  rw [qE_firstLost, jI_0]
  exact q_fL2 hs h67 201 0 rfl (fun i h => absurd h (Nat.not_lt_zero _))
/-- the class's side -/
theorem c_lL (J : JJ n M r TL CL) {sN f : Nat} (hs : sN < 4) (hf : f < 200) (h1 : j_lost r sN f = true) (h0 : ∀ i, i < f → j_lost r sN i = false) : ∀ m j, j + m = f → cF_X9_lowestLost_2 (n + (12 + 4 * sN)) (nI j) M = (nI f, M) := by
  intro m
  induction m with
  | zero =>
    intro j hj
    have e : j = f := by omega
    subst e
    have hB := cE_X9_lowestLost_2 (n + (12 + 4 * sN)) (nI j) M
    rw [if_neg (show ¬ (200 : Int32) ≤ nI j from fun c => by rw [show (200 : Int32) = nI 200 from rfl, jI_le (by omega) (by omega)] at c; omega)] at hB
    replace hB := hB.trans (q_ste2 (j_isLost J hs hf))
    rw [if_pos h1, if_neg (by decide)] at hB
    exact cUr_X9_lowestLost_2 hB
  | succ m ih =>
    intro j hj
    have hB := cE_X9_lowestLost_2 (n + (12 + 4 * sN)) (nI j) M
    rw [if_neg (show ¬ (200 : Int32) ≤ nI j from fun c => by rw [show (200 : Int32) = nI 200 from rfl, jI_le (by omega) (by omega)] at c; omega)] at hB
    replace hB := hB.trans (q_ste2 (j_isLost J hs (by omega)))
    rw [h0 j (by omega), if_neg (show ¬ (false = true) by decide), if_pos rfl] at hB
    have e1 : nI (j + 1) = nI j + 1 := by rw [jI_1, jI_add (by omega)]
    replace hB := hB.trans (q_ste (b := nI (j + 1)) e1)
    rw [cUl_X9_lowestLost_2 hB]
    exact ih (j + 1) (by omega)
/-- a byte behind the row is not lost -/
theorem c_isLO (J : JJ n M r TL CL) {sN j : Nat} (hs : sN < 4) (hj : 200 ≤ j) (hj2 : j < 1000) (h67 : (r.2 67 sN).toInt ≤ 200) : cF_X9_isLost (n + (12 + 4 * sN)) (nI j) M = (0, M) := by
  have hB := cE_X9_isLost (n + (12 + 4 * sN)) (nI j) M
  rw [if_neg (jI_nlt0 (by omega)), (j_lo J hs).1, if_pos (by rw [Int32.le_iff_toInt_le, jI_t (by omega)]; omega)] at hB
  exact hB
/-- how many in a row -/
theorem j_run (J : JJ n M r TL CL) {sN f : Nat} (hs : sN < 4) (hf : f < 200) (h67 : (r.2 67 sN).toInt ≤ 200) : ∀ m k, k + m = 10 → 1 ≤ k → (∀ i, i < k → j_lost r sN (f + i) = true) → f + k ≤ 200 → ∃ g, 1 ≤ g ∧ f + g ≤ 200 ∧ (f + g : Nat) ≤ (r.2 67 sN).toInt ∧ cF_X9_lostInARow_2 (n + (12 + 4 * sN)) (nI f) (nI k) M = (nI g, M) ∧ qF_sendsNext_21 0 (nI sN) (nI f) (nI k) r = (1, qF_sends 0 (nI sN) (nI f) (nI g) 0 r) := by
  intro m
  induction m with
  | zero =>
    intro k hk h1 hl h2
    have hB := cE_X9_lostInARow_2 (n + (12 + 4 * sN)) (nI f) (nI k) M
    have hQ := qE_sendsNext_21 0 (nI sN) (nI f) (nI k) r
    have c : (10 : Int32) ≤ nI k := by rw [show (10 : Int32) = nI 10 from rfl, jI_le (by omega) (by omega)]; omega
    rw [if_pos c] at hB hQ
    replace hQ := hQ.trans (q_ste rfl)
    have h3 := j_lost67 (hl (k - 1) (by omega))
    exact ⟨k, h1, h2, by omega, cUr_X9_lostInARow_2 hB, qUr_sendsNext_21 hQ⟩
  | succ m ih =>
    intro k hk h1 hl h2
    have hB := cE_X9_lostInARow_2 (n + (12 + 4 * sN)) (nI f) (nI k) M
    have hQ := qE_sendsNext_21 0 (nI sN) (nI f) (nI k) r
    have c : ¬ (10 : Int32) ≤ nI k := fun c => by rw [show (10 : Int32) = nI 10 from rfl, jI_le (by omega) (by omega)] at c; omega
    rw [if_neg c, jI_add (by omega)] at hB hQ
    have h3 := j_lost67 (hl (k - 1) (by omega))
    by_cases c2 : 200 ≤ f + k
    · rw [if_pos (show (200 : Int32) ≤ nI (f + k) by rw [show (200 : Int32) = nI 200 from rfl, jI_le (by omega) (by omega)]; exact c2)] at hQ
      replace hQ := hQ.trans (q_ste rfl)
      replace hB := hB.trans (q_ste2 (c_isLO J hs c2 (by omega) h67))
      rw [if_pos rfl] at hB
      exact ⟨k, h1, h2, by omega, cUr_X9_lostInARow_2 hB, qUr_sendsNext_21 hQ⟩
    · rw [if_neg (show ¬ (200 : Int32) ≤ nI (f + k) from fun c => by rw [show (200 : Int32) = nI 200 from rfl, jI_le (by omega) (by omega)] at c; omega)] at hQ
      replace hQ := hQ.trans (q_ste2 (q_isL hs (by omega)))
      replace hB := hB.trans (q_ste2 (j_isLost J hs (by omega)))
      by_cases c3 : j_lost r sN (f + k) = true
      · rw [if_pos c3, if_neg (by decide)] at hB hQ
        have e1 : nI (k + 1) = nI k + 1 := by rw [jI_1, jI_add (by omega)]
        replace hB := hB.trans (q_ste (b := nI (k + 1)) e1)
        replace hQ := hQ.trans (q_ste (b := nI (k + 1)) e1)
        obtain ⟨g, z1, z2, z3, z4, z5⟩ := ih (k + 1) (by omega) (by omega) (fun i hi => by
          by_cases ci : i = k
          · rw [ci]; exact c3
          · exact hl i (by omega)) (by omega)
        exact ⟨g, z1, z2, z3, (cUl_X9_lostInARow_2 hB).trans z4, (qUl_sendsNext_21 hQ).trans z5⟩
      · rw [if_neg c3, if_pos rfl] at hB hQ
        replace hQ := hQ.trans (q_ste rfl)
        exact ⟨k, h1, h2, by omega, cUr_X9_lostInARow_2 hB, qUr_sendsNext_21 hQ⟩
/-- lost bytes are sent, if there are some -/
theorem j_sendLost2 (J : JJ n M r TL CL) (h : kI t s q z r) {P : Nat} (hP : r.1 1606 = nI P) (hP4 : P < 400) {Ph : q_R → Prop} (hPh : ∀ (sN a m : Nat), sN < 4 → a + m ≤ 200 → Ph (qF_sends 0 (nI sN) (nI a) (nI m) 0 r)) : ∀ m sN, sN + m = 4 → (cF_X1_sendLost_2 (n + 31) (some (n + 32)) (nI sN) M = (0, M) ∧ qF_sendsNext_2 0 (nI sN) r = qF_sendsNext_76 0 1 r) ∨ (∃ M' r', JJ n M' r' TL CL ∧ kI t s q z r' ∧ Ph r' ∧ r'.1 1606 = nI (P + 1) ∧ cF_X1_sendLost_2 (n + 31) (some (n + 32)) (nI sN) M = (1, M') ∧ qF_sendsNext_2 0 (nI sN) r = (1, r')) := by
  intro m
  induction m with
  | zero =>
    intro sN hs
    have e : sN = 4 := by omega
    subst e
    have hB := cE_X1_sendLost_2 (n + 31) (some (n + 32)) (nI 4) M
    have hQ := qE_sendsNext_2 0 (nI 4) r
    rw [if_pos (by decide)] at hB hQ
    exact Or.inl ⟨cUr_X1_sendLost_2 hB, qUr_sendsNext_2 hQ⟩
  | succ m ih =>
    intro sN hs
    have hs4 : sN < 4 := by omega
    have b67 := ri_A h.1 (x := 67) (lo := 0) (hi := 200) (by decide) sN
    have e1 : nI (sN + 1) = nI sN + 1 := by rw [jI_1, jI_add (by omega)]
    have hB := cE_X1_sendLost_2 (n + 31) (some (n + 32)) (nI sN) M
    have hQ := qE_sendsNext_2 0 (nI sN) r
    have c4 : ¬ (4 : Int32) ≤ nI sN := jI_n4 hs4
    rw [if_neg c4] at hB hQ
    replace hB := hB.trans (q_ste (b := n + 11) (by rw [s_129_31 J.1]; rfl))
    replace hB := hB.trans (q_ste (b := n + (12 + 4 * sN)) (by rw [jI_N (by omega), s_str J.1 hs4]; rfl))
    rw [(j_lo J hs4).2] at hB
    have hl := rf_c_le (p := j_lost r sN) 200
    rcases q_fL hs4 b67.2 with ⟨f0, f1⟩ | ⟨f, f0, f1, f2, f3⟩
    · replace hQ := hQ.trans (q_ste2 f1)
      rw [if_pos rfl] at hQ
      replace hQ := hQ.trans (q_ste (b := nI (sN + 1)) e1)
      have hz : rf_c (j_lost r sN) 200 = 0 := by
        have k : ∀ i, i ≤ 200 → rf_c (j_lost r sN) i = 0 := by
          intro i
          induction i with
          | zero => intro _; rfl
          | succ i ih2 =>
            intro hi
            show rf_c (j_lost r sN) i + (if j_lost r sN i = true then 1 else 0) = 0
            rw [ih2 (by omega), f0 i (by omega)]
            rfl
        exact k 200 (Nat.le_refl _)
      rw [hz, if_pos (by decide)] at hB
      replace hB := hB.trans (q_ste (b := nI (sN + 1)) e1)
      rw [cUl_X1_sendLost_2 hB, qUl_sendsNext_2 hQ]
      exact ih (sN + 1) (by omega)
    · replace hQ := hQ.trans (q_ste2 f3)
      rw [if_neg (nI_m1 (by omega))] at hQ
      have hp := rf_c_pos (p := j_lost r sN) f1 f0
      rw [if_neg (jI_nle0 (by omega) (by omega))] at hB
      replace hB := hB.trans (q_ste (b := n + 11) (by rw [s_129_31 J.1]; rfl))
      replace hB := hB.trans (q_ste (b := n + (12 + 4 * sN)) (by rw [jI_N (by omega), s_str J.1 hs4]; rfl))
      have hL := cE_X9_lowestLost (n + (12 + 4 * sN)) M
      rw [jI_0, c_lL J hs4 f0 f1 f2 f 0 (by omega)] at hL
      replace hB := hB.trans (q_ste2 hL)
      replace hB := hB.trans (q_ste (b := n + 11) (by rw [s_129_31 J.1]; rfl))
      replace hB := hB.trans (q_ste (b := n + (12 + 4 * sN)) (by rw [jI_N (by omega), s_str J.1 hs4]; rfl))
      obtain ⟨g, g1, g2, g3, g4, g5⟩ := j_run J hs4 f0 b67.2 9 1 rfl (Nat.le_refl _) (fun i hi => by
        have e0 : i = 0 := by omega
        rw [e0]; exact f1) (by omega)
      have hR := cE_X9_lostInARow (n + (12 + 4 * sN)) (nI f) M
      have hR1 := cE_X9_lostInARow_2 (n + (12 + 4 * sN)) (nI f) 0 M
      rw [if_neg (by decide), Int32.add_zero] at hR1
      replace hR1 := hR1.trans (q_ste2 (j_isLost J hs4 f0))
      rw [if_pos f1, if_neg (by decide)] at hR1
      replace hR1 := hR1.trans (q_ste (b := nI 1) (by decide))
      rw [cUl_X9_lostInARow_2 hR1, g4] at hR
      replace hB := hB.trans (q_ste2 hR)
      replace hB := hB.trans (q_ste rfl)
      have ev : r.2 67 sN = (if r.2 67 sN < nI (f + g) then nI (f + g) else r.2 67 sN : Int32) := by
        rw [if_neg (fun c => by rw [Int32.lt_iff_toInt_lt, jI_t (by omega)] at c; omega)]
      have JS := j_sendG (b := 0) (v := r.2 67 sN) J h hP hP4 hs4 g2 ev (fun c => by
        rw [Int32.lt_iff_toInt_lt, jI_t (by omega)] at c
        omega) (by rw [ua_id rfl]; exact h.1)
      rw [ua_id rfl] at JS
      obtain ⟨k1, k2, k3⟩ := kI_sends (b := 0) J.1 h hP hP4 hs4 g2 g3
      rw [jI_1] at hQ
      rw [g5] at hQ
      exact Or.inr ⟨_, _, JS, k1, hPh sN f g hs4 g2, k3, cUr_X1_sendLost_2 hB, qUr_sendsNext_2 hQ⟩
end JNX
