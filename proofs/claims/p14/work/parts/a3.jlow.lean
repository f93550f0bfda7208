/-! ===== THE LIKENESS: the lowest packet in flight ===== -/
section JLX
variable {n : Nat} {M M0 M1 M2 : z_Mem} {r r1 r2 : q_R} {TL CL : List Nat} {t s q z : Nat}
/-- only the first open number changes -/
def bO (n : Nat) (M M1 : z_Mem) : Prop := (∀ g b, ¬ (g = 134 ∧ b = n + 31) → z_fi M1 g b = z_fi M g b) ∧ (∀ g b, z_fr M1 g b = z_fr M g b) ∧ (∀ b i, z_ar M1 b i = z_ar M b i)
theorem bO_r : bO n M M := ⟨fun _ _ _ => rfl, fun _ _ => rfl, fun _ _ => rfl⟩
theorem bO_tr (a : bO n M M1) (b : bO n M1 M2) : bO n M M2 := ⟨fun g x h => (b.1 g x h).trans (a.1 g x h), fun g x => (b.2.1 g x).trans (a.2.1 g x), fun x i => (b.2.2 x i).trans (a.2.2 x i)⟩
theorem bO_s {v : Int32} : bO n M (z_sfi M 134 (n + 31) v) := ⟨fun g b h => by
  rw [zq_fi_sfi]
  by_cases c : g = 134
  · rw [if_pos c, if_neg (fun e => h ⟨c, e⟩)]
  · rw [if_neg c], fun _ _ => rfl, fun _ _ => rfl⟩
theorem js_896_32 (J : JJ n M r TL CL) : z_fi M 896 (n + 32) = r.2 120 0 := J.2.1.at 92 rfl
theorem js_896_35 (J : JJ n M r TL CL) : z_fi M 896 (n + 35) = r.2 120 1 := J.2.1.at 93 rfl
theorem c_low9 (I : rf_I t s q z r.1 r.2) {x1 : Option Nat} : ∀ k (M : z_Mem), JJ n M r TL CL → jN (z_fi M 134 (n + 31)) + k = jN (r.1 1606) → ∃ M', bO n M M' ∧ JJ n M' r TL CL ∧ cF_X1_lowestInFlight_9 (n + 31) x1 (if jN (z_fi M 134 (n + 31)) < jN (r.1 1606) then z_ar M (n + 38) (jN (z_fi M 134 (n + 31))) else none) M = cF_X1_lowestInFlight_53 (n + 31) x1 M' := by
  have hb := ri_pk I
  have hP := ri_P I
  have hPN := jN_toInt hP.1
  intro k
  induction k with
  | zero =>
    intro M J hk
    refine ⟨M, bO_r, J, ?_⟩
    have h0 := J.2.2.2.1.2.2.2.2.2.2.1.2.1
    have h2 := jN_toInt h0
    have hB := cE_X1_lowestInFlight_9 (n + 31) x1 (if jN (z_fi M 134 (n + 31)) < jN (r.1 1606) then z_ar M (n + 38) (jN (z_fi M 134 (n + 31))) else none) M
    rw [js_133_31 J, if_pos (show r.1 1606 ≤ z_fi M 134 (n + 31) by rw [Int32.le_iff_toInt_le]; omega)] at hB
    exact cUr_X1_lowestInFlight_9 hB
  | succ k ih =>
    intro M J hk
    have h0 := J.2.2.2.1.2.2.2.2.2.2.1.2.1
    have h2 := jN_toInt h0
    have hlt : jN (z_fi M 134 (n + 31)) < jN (r.1 1606) := by omega
    rw [if_pos hlt]
    obtain ⟨pk, a1, a2, a3, a4, a5⟩ := J.pkt hlt
    rw [a1]
    have hB := cE_X1_lowestInFlight_9 (n + 31) x1 (some pk) M
    rw [js_133_31 J, if_neg (show ¬ r.1 1606 ≤ z_fi M 134 (n + 31) by rw [Int32.le_iff_toInt_le]; omega)] at hB
    replace hB := hB.trans (q_ops rfl)
    rw [jp_778 a5] at hB
    by_cases c : r.2 76 (jN (z_fi M 134 (n + 31))) = 0
    · rw [if_pos c] at hB
      exact ⟨M, bO_r, J, cUr_X1_lowestInFlight_9 hB⟩
    · rw [if_neg c] at hB
      have J1 := J.open1 (by omega) hlt c rfl
      have e1 : z_fi (z_sfi M 134 (n + 31) (z_fi M 134 (n + 31) + 1)) 134 (n + 31) = z_fi M 134 (n + 31) + 1 := by rw [zq_fi_sfi, if_pos rfl, if_pos rfl]
      have eN : jN (z_fi M 134 (n + 31) + 1) = jN (z_fi M 134 (n + 31)) + 1 := jN_add1 h0 (by omega)
      have eI : z_fi M 134 (n + 31) + 1 = nI (jN (z_fi M 134 (n + 31)) + 1) := by rw [← jI_add (by omega), jI_jN h0]; rfl
      have bS := bO_s (n := n) (M := M) (v := z_fi M 134 (n + 31) + 1)
      replace hB := hB.trans (q_ste (b := z_sfi M 134 (n + 31) (z_fi M 134 (n + 31) + 1)) rfl)
      have kk : jN (z_fi (z_sfi M 134 (n + 31) (z_fi M 134 (n + 31) + 1)) 134 (n + 31)) + k = jN (r.1 1606) := by rw [e1, eN]; omega
      obtain ⟨M', b1, b2, b3⟩ := ih _ J1 kk
      generalize hW : z_sfi M 134 (n + 31) (z_fi M 134 (n + 31) + 1) = W at hB J1 e1 bS b1 b3
      rw [e1, eN] at b3
      rw [e1, eI] at hB
      refine ⟨M', bO_tr bS b1, b2, ?_⟩
      by_cases c2 : jN (z_fi M 134 (n + 31)) + 1 < jN (r.1 1606)
      · rw [if_pos c2] at b3
        replace hB := hB.trans (q_ste2 (j_patS J1 I c2))
        rw [cUl_X1_lowestInFlight_9 hB]
        exact b3
      · rw [if_neg c2] at b3
        replace hB := hB.trans (q_ste2 (j_patN J1 I (by omega) (by omega)))
        rw [cUl_X1_lowestInFlight_9 hB]
        exact b3
/-- the lowest one -/
def kLow (n : Nat) (M : z_Mem) (r : q_R) (o : Option Nat) : Prop := (∃ i, i < jN (r.1 1606) ∧ r.2 76 i = 0 ∧ (∀ k, k < i → ¬ r.2 76 k = 0) ∧ o = z_ar M (n + 38) i) ∨ ((∀ k, k < jN (r.1 1606) → ¬ r.2 76 k = 0) ∧ o = none)
theorem k_fl0 (K : kP r) {i : Nat} (hi : i < jN (r.1 1606)) : j_fl r 0 i = decide (r.2 76 i = 0) := by
  unfold j_fl
  rw [(K.1.2.2.1 i hi).1]
  by_cases c : r.2 76 i = 0
  · rw [decide_eq_true c]; exact decide_eq_true ⟨rfl, c⟩
  · rw [decide_eq_false c]; exact decide_eq_false (fun h => c h.2)
theorem k_fl1 (K : kP r) : rf_c (j_fl r 1) (jN (r.1 1606)) = 0 := by
  have h : ∀ k, k ≤ jN (r.1 1606) → rf_c (j_fl r 1) k = 0 := by
    intro k
    induction k with
    | zero => intro _; rfl
    | succ k ih =>
      intro hk
      have e : j_fl r 1 k = false := by
        unfold j_fl
        rw [(K.1.2.2.1 k (by omega)).1]
        exact decide_eq_false (fun h => absurd h.1 (by decide))
      show rf_c (j_fl r 1) k + (if j_fl r 1 k = true then 1 else 0) = 0
      rw [ih (by omega), e]
      rfl
  exact h _ (Nat.le_refl _)
theorem c_low58 (J : JJ n M r TL CL) (I : rf_I t s q z r.1 r.2) (K : kP r) : ∀ m j, j + m = jN (r.1 1606) → (∀ k, k < j → ¬ r.2 76 k = 0) → ∃ o, cF_X1_lowestInFlight_58 (n + 31) (some (n + 32)) (nI j) M = (o, M) ∧ kLow n M r o := by
  have hb := ri_pk I
  have hP := ri_P I
  have hPN := jN_toInt hP.1
  have h9 : z_fi M 899 (n + 32) = nI (rf_c (j_fl r 0) (jN (r.1 1606))) := J.2.2.2.1.2.2.2.2.2.1 0 (by decide)
  have hl := rf_c_le (p := j_fl r 0) (jN (r.1 1606))
  intro m
  induction m with
  | zero =>
    intro j hj hk
    have hB := cE_X1_lowestInFlight_58 (n + 31) (some (n + 32)) (nI j) M
    rw [js_133_31 J, if_pos (by rw [Int32.le_iff_toInt_le, jI_t (by omega)]; omega)] at hB
    exact ⟨none, cUr_X1_lowestInFlight_58 hB, Or.inr ⟨fun k hk2 => hk k (by omega), rfl⟩⟩
  | succ m ih =>
    intro j hj hk
    have hjP : j < jN (r.1 1606) := by omega
    have hB := cE_X1_lowestInFlight_58 (n + 31) (some (n + 32)) (nI j) M
    rw [js_133_31 J, if_neg (by rw [Int32.le_iff_toInt_le, jI_t (by omega)]; omega)] at hB
    replace hB := hB.trans (q_ste (b := n + 32) rfl)
    by_cases c9 : z_fi M 899 (n + 32) ≤ 0
    · rw [if_pos c9] at hB
      refine ⟨none, cUr_X1_lowestInFlight_58 hB, Or.inr ⟨fun k hk2 h76 => ?_, rfl⟩⟩
      rw [h9, jI_0, jI_le (by omega) (by omega)] at c9
      have := rf_c_pos (p := j_fl r 0) (i := k) (by rw [k_fl0 K hk2]; exact decide_eq_true h76) hk2
      omega
    · rw [if_neg c9] at hB
      obtain ⟨pk, a1, a2, a3, a4, a5⟩ := J.pkt hjP
      replace hB := hB.trans (q_ste2 (j_patS J I hjP))
      rw [a1] at hB
      replace hB := hB.trans (q_ops rfl)
      rw [jp_769 a5, jp_778 a5, (K.1.2.2.1 j hjP).1, js_896_32 J, K.1.2.2.2.2.2.1, if_pos rfl] at hB
      by_cases c : r.2 76 j = 0
      · rw [if_pos c] at hB
        exact ⟨some pk, cUr_X1_lowestInFlight_58 hB, Or.inl ⟨j, hjP, c, hk, a1.symm⟩⟩
      · rw [if_neg c] at hB
        have hC := cE_X1_lowestInFlight_108 (n + 31) (some (n + 32)) (nI j) M
        replace hC := hC.trans (q_ste (b := nI (j + 1)) (by rw [jI_1, jI_add (by omega)]))
        obtain ⟨o, k1, k2⟩ := ih (j + 1) (by omega) (fun k hk3 => by
          by_cases ck : k = j
          · rw [ck]; exact c
          · exact hk k (by omega))
        exact ⟨o, (cUl_X1_lowestInFlight_58 (hB.trans hC)).trans k1, k2⟩
theorem j_low0 (J : JJ n M r TL CL) (I : rf_I t s q z r.1 r.2) (K : kP r) : ∃ M' o, bO n M M' ∧ JJ n M' r TL CL ∧ cF_X1_lowestInFlight (n + 31) (some (n + 32)) M = (o, M') ∧ kLow n M' r o := by
  have hb := ri_pk I
  have h7 := J.2.2.2.1.2.2.2.2.2.2.1
  have hB := cE_X1_lowestInFlight (n + 31) (some (n + 32)) M
  obtain ⟨M', b1, b2, b3⟩ := c_low9 (x1 := some (n + 32)) I (jN (r.1 1606) - jN (z_fi M 134 (n + 31))) M J (by omega)
  have h7' := b2.2.2.2.1.2.2.2.2.2.2.1
  have hC := cE_X1_lowestInFlight_53 (n + 31) (some (n + 32)) M'
  replace hC := hC.trans (q_ste (b := nI (jN (z_fi M' 134 (n + 31)))) (jI_jN h7'.2.1))
  obtain ⟨o, k1, k2⟩ := c_low58 b2 I K (jN (r.1 1606) - jN (z_fi M' 134 (n + 31))) (jN (z_fi M' 134 (n + 31))) (by omega) h7'.2.2
  refine ⟨M', o, b1, b2, ?_, k2⟩
  rw [← jI_jN h7.2.1] at hB
  by_cases c : jN (z_fi M 134 (n + 31)) < jN (r.1 1606)
  · rw [if_pos c] at b3
    exact (hB.trans (q_ste2 (j_patS J I c))).trans (b3.trans (hC.trans k1))
  · rw [if_neg c] at b3
    exact (hB.trans (q_ste2 (j_patN J I (by omega) (by omega)))).trans (b3.trans (hC.trans k1))
theorem j_low1 (J : JJ n M r TL CL) (I : rf_I t s q z r.1 r.2) (K : kP r) : ∃ M', bO n M M' ∧ JJ n M' r TL CL ∧ cF_X1_lowestInFlight (n + 31) (some (n + 35)) M = (none, M') := by
  have hb := ri_pk I
  have hP := ri_P I
  have hPN := jN_toInt hP.1
  have h7 := J.2.2.2.1.2.2.2.2.2.2.1
  have hB := cE_X1_lowestInFlight (n + 31) (some (n + 35)) M
  obtain ⟨M', b1, b2, b3⟩ := c_low9 (x1 := some (n + 35)) I (jN (r.1 1606) - jN (z_fi M 134 (n + 31))) M J (by omega)
  have h7' := b2.2.2.2.1.2.2.2.2.2.2.1
  have hC := cE_X1_lowestInFlight_53 (n + 31) (some (n + 35)) M'
  replace hC := hC.trans (q_ste (b := z_fi M' 134 (n + 31)) rfl)
  have hD := cE_X1_lowestInFlight_58 (n + 31) (some (n + 35)) (z_fi M' 134 (n + 31)) M'
  have h9 : z_fi M' 899 (n + 35) = nI (rf_c (j_fl r 1) (jN (r.1 1606))) := b2.2.2.2.1.2.2.2.2.2.1 1 (by decide)
  rw [k_fl1 K] at h9
  have k1 : cF_X1_lowestInFlight_58 (n + 31) (some (n + 35)) (z_fi M' 134 (n + 31)) M' = (none, M') := by
    by_cases c : z_fi M' 133 (n + 31) ≤ z_fi M' 134 (n + 31)
    · rw [if_pos c] at hD
      exact cUr_X1_lowestInFlight_58 hD
    · rw [if_neg c] at hD
      replace hD := hD.trans (q_ste (b := n + 35) rfl)
      rw [h9, if_pos (by decide)] at hD
      exact cUr_X1_lowestInFlight_58 hD
  refine ⟨M', b1, b2, ?_⟩
  rw [← jI_jN h7.2.1] at hB
  by_cases c : jN (z_fi M 134 (n + 31)) < jN (r.1 1606)
  · rw [if_pos c] at b3
    exact (hB.trans (q_ste2 (j_patS J I c))).trans (b3.trans (hC.trans k1))
  · rw [if_neg c] at b3
    exact (hB.trans (q_ste2 (j_patN J I (by omega) (by omega)))).trans (b3.trans (hC.trans k1))
end JLX
