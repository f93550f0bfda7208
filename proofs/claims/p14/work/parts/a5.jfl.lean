/-! ===== THE LIKENESS: losses by order and by time, the class's side ===== -/
section JFL
variable {n : Nat} {M M0 M1 M2 : z_Mem} {r r1 r2 : q_R} {TL CL : List Nat} {t s q z : Nat}
/-- what a packet that leaves flight (not acknowledged) leaves alone -/
theorem c_leaveFr (J : JJ n M r TL CL) (I : rf_I t s q z r.1 r.2) {i pk : Nat} {v : Int32} (hv : ¬ v = 1) (hi : i < jN (r.1 1606)) (e : z_ar M (n + 38) i = some pk) (h71 : r.2 71 i = 0) : (∀ g b, g < 1000 → g ≠ 778 → g ≠ 899 → z_fi (cF_X1_leaveFlight (n + 31) (some pk) v M) g b = z_fi M g b) ∧ (∀ b i, z_ar (cF_X1_leaveFlight (n + 31) (some pk) v M) b i = z_ar M b i) := by
  obtain ⟨sN, a, m, hs, ham, e3, e4, e5⟩ := ri_by I i
  obtain ⟨pk0, a1, a2, a3, a4, a5⟩ := J.pkt hi
  rw [e] at a1
  cases a1
  have h1 : z_fi M 769 pk = 0 := (jp_769 a5).trans h71
  have h3 : z_fi M 771 pk = nI sN := (jp_771 a5).trans e3
  have h4 : z_fi M 772 pk = nI a := (jp_772 a5).trans e4
  have h5 : z_fi M 773 pk = nI m := (jp_773 a5).trans e5
  rw [c_leaveF J.1 hs h1 h3 h4 h5 rfl, if_neg hv]
  have S1 : y_S n (z_sfi (z_sfi M 778 pk v) 899 (n + 32) (z_fi M 899 (n + 32) - 1)) := S_sfi (S_sfi J.1)
  have fr : ∀ g b, g ≠ 778 → g ≠ 899 → z_fi (z_sfi (z_sfi M 778 pk v) 899 (n + 32) (z_fi M 899 (n + 32) - 1)) g b = z_fi M g b := fun g b c1 c2 => by rw [zq_fi_sfi, if_neg c2, zq_fi_sfi, if_neg c1]
  have ar : ∀ b i, z_ar (z_sfi (z_sfi M 778 pk v) 899 (n + 32) (z_fi M 899 (n + 32) - 1)) b i = z_ar M b i := fun _ _ => rfl
  generalize z_sfi (z_sfi M 778 pk v) 899 (n + 32) (z_fi M 899 (n + 32) - 1) = W at S1 fr ar
  rw [c_leave62 S1 hs ((fr 771 pk (by decide) (by decide)).trans h3) ((fr 772 pk (by decide) (by decide)).trans h4) ((fr 773 pk (by decide) (by decide)).trans h5)]
  have B := c_landFr (M := W) (a := n + (12 + 4 * sN)) ham
  exact ⟨fun g b c0 c1 c2 => (B.1 g b (by omega)).trans (fr g b c1 c2), fun b i => (B.2.2 b i).trans (ar b i)⟩
/-- lost by time, or by order where that is asked -/
def pL (x2 : Int32) (r : q_R) (k : Nat) : Prop := pT r k ∨ (¬ x2 = 0 ∧ pO r k)
theorem pL_c {x2 : Int32} (h : kF r r1) {k : Nat} : pL x2 r1 k ↔ pL x2 r k := by
  unfold pL
  rw [pT_c h, pO_c h]
theorem pL_94 {x2 : Int32} (h : kI t s q z r) {k : Nat} (hk : k < jN (r.1 1606)) (hl : pL x2 r k) : (k : Int) < (r.2 94 0).toInt := by
  rcases hl with hl | hl
  · exact pT_94 h.2 h.1 hk hl
  · exact pO_94 h.2 h.1 hk hl.2
theorem c_isT (J : JJ n M r TL CL) {i pk : Nat} (hi : i < jN (r.1 1606)) (e : z_ar M (n + 38) i = some pk) : (pT r i → cF_X7_isLostByTime (n + 32) (some pk) (z_fi M 645 (n + 1)) M = (1, M)) ∧ (¬ pT r i → cF_X7_isLostByTime (n + 32) (some pk) (z_fi M 645 (n + 1)) M = (0, M)) := by
  obtain ⟨pk0, a1, a2, a3, a4, a5⟩ := J.pkt hi
  rw [e] at a1
  cases a1
  have hB := cE_X7_isLostByTime (n + 32) (some pk) (z_fi M 645 (n + 1)) M
  rw [js_900_32 J, js_903_32 J, js_645_1 J] at hB
  replace hB := hB.trans (q_ste (b := kW r) rfl)
  replace hB := hB.trans (q_ste (b := pk) rfl)
  rw [js_906_32 J, jp_780 a5, jp_770 a5, ← js_645_1 J] at hB
  rw [js_645_1 J] at hB ⊢
  unfold pT
  by_cases c1 : r.2 94 0 ≤ r.2 82 i
  · rw [if_pos c1] at hB
    exact ⟨fun h => absurd c1 h.1, fun _ => hB⟩
  · rw [if_neg c1] at hB
    by_cases c2 : r.1 1536 - r.2 72 i < kW r
    · rw [if_pos c2] at hB
      exact ⟨fun h => absurd c2 h.2, fun _ => hB⟩
    · rw [if_neg c2] at hB
      exact ⟨fun _ => hB, fun h => absurd ⟨c1, c2⟩ h⟩
theorem c_isO (J : JJ n M r TL CL) {i pk : Nat} (hi : i < jN (r.1 1606)) (e : z_ar M (n + 38) i = some pk) : (pO r i → cF_X7_isLostByOrder (n + 32) (some pk) M = (1, M)) ∧ (¬ pO r i → cF_X7_isLostByOrder (n + 32) (some pk) M = (0, M)) := by
  obtain ⟨pk0, a1, a2, a3, a4, a5⟩ := J.pkt hi
  rw [e] at a1
  cases a1
  have hB := cE_X7_isLostByOrder (n + 32) (some pk) M
  replace hB := hB.trans (q_ste (b := pk) rfl)
  rw [js_906_32 J, jp_780 a5] at hB
  unfold pO
  by_cases c1 : r.2 94 0 < r.2 82 i + 3
  · rw [if_pos c1] at hB
    exact ⟨fun h => absurd c1 h, fun _ => hB⟩
  · rw [if_neg c1] at hB
    exact ⟨fun _ => hB, fun h => absurd c1 h⟩
theorem c_fl38 (J : JJ n M r TL CL) {i pk : Nat} (hi : i < jN (r.1 1606)) (e : z_ar M (n + 38) i = some pk) {x2 x4 : Int32} : (pT r i → cF_X1_findLosses_37 (n + 31) (some (n + 32)) x2 (some pk) x4 M = cF_X1_findLosses_63 (n + 31) (some (n + 32)) x2 (some pk) x4 M) ∧ (¬ pT r i → cF_X1_findLosses_37 (n + 31) (some (n + 32)) x2 (some pk) x4 M = .inr M) ∧ cF_X1_findLosses_38 (n + 31) (some (n + 32)) x2 (some pk) x4 1 M = cF_X1_findLosses_63 (n + 31) (some (n + 32)) x2 (some pk) x4 M := by
  have hA := cE_X1_findLosses_37 (n + 31) (some (n + 32)) x2 (some pk) x4 M
  have hB := cE_X1_findLosses_38 (n + 31) (some (n + 32)) x2 (some pk) x4 0 M
  rw [if_pos rfl] at hB
  replace hB := hB.trans (q_ste (b := n + 1) (by rw [s_128_31 J.1]; rfl))
  replace hB := hB.trans (q_ste (b := n + 32) rfl)
  obtain ⟨t1, t2⟩ := c_isT J hi e
  refine ⟨fun h => ?_, fun h => ?_, ?_⟩
  · have hC := hB.trans (q_ste2 (t1 h))
    rw [if_neg (by decide)] at hC
    exact hA.trans hC
  · have hC := hB.trans (q_ste2 (t2 h))
    rw [if_pos rfl] at hC
    exact hA.trans hC
  · have hC := cE_X1_findLosses_38 (n + 31) (some (n + 32)) x2 (some pk) x4 1 M
    rw [if_neg (by decide)] at hC
    exact hC
theorem c_fl12 (J : JJ n M r TL CL) {i pk : Nat} (hi : i < jN (r.1 1606)) (e : z_ar M (n + 38) i = some pk) {x2 x4 : Int32} (h4 : ¬ x4 ≤ 0) : (pL x2 r i → cB_X1_findLosses_12 (n + 31) (some (n + 32)) x2 (some pk) x4 M = cF_X1_findLosses_63 (n + 31) (some (n + 32)) x2 (some pk) x4 M) ∧ (¬ pL x2 r i → cB_X1_findLosses_12 (n + 31) (some (n + 32)) x2 (some pk) x4 M = .inr M) := by
  have hB := cE_X1_findLosses_12 (n + 31) (some (n + 32)) x2 (some pk) x4 M
  rw [if_neg h4] at hB
  replace hB := hB.trans (q_ops rfl)
  obtain ⟨t1, t2, t3⟩ := c_fl38 (x2 := x2) (x4 := x4) J hi e
  unfold pL
  by_cases c : x2 = 0
  · rw [if_pos c] at hB
    refine ⟨fun h => ?_, fun h => ?_⟩
    · rcases h with h | h
      · exact hB.trans (t1 h)
      · exact absurd c h.1
    · exact hB.trans (t2 (fun hT => h (Or.inl hT)))
  · rw [if_neg c] at hB
    replace hB := hB.trans (q_ste (b := n + 32) rfl)
    obtain ⟨o1, o2⟩ := c_isO J hi e
    rcases Classical.em (pO r i) with cO | cO
    · have hC := hB.trans (q_ste2 (o1 cO))
      rw [if_neg (by decide)] at hC
      exact ⟨fun _ => hC.trans t3, fun h => absurd (Or.inr ⟨c, cO⟩) h⟩
    · have hC := hB.trans (q_ste2 (o2 cO))
      rw [if_pos rfl] at hC
      refine ⟨fun h => ?_, fun h => ?_⟩
      · rcases h with h | h
        · exact hC.trans (t1 h)
        · exact absurd h.2 cO
      · exact hC.trans (t2 (fun hT => h (Or.inl hT)))
set_option maxRecDepth 100000 in
/-- one is lost -/
theorem j_fl63 (J : JJ n M r TL CL) (h : kI t s q z r) {i pk : Nat} (hi : i < jN (r.1 1606)) (e : z_ar M (n + 38) i = some pk) (h76 : r.2 76 i = 0) (hl : (i : Int) < (r.2 94 0).toInt) {x2 : Int32} {k : Nat} (hk : k < 1000) : ∃ M' o, JJ n M' (qF_loses (nI i) r) TL CL ∧ kLow n M' (qF_loses (nI i) r) o ∧ cF_X1_findLosses_63 (n + 31) (some (n + 32)) x2 (some pk) (nI (k + 1)) M = .inl (some (n + 32), x2, o, nI k, M') := by
  have hb := ri_pk h.1
  obtain ⟨pk0, a1, a2, a3, a4, a5⟩ := J.pkt hi
  rw [e] at a1
  cases a1
  have h71 := (h.2.1.2.2.1 i hi).1
  obtain ⟨F1, F2⟩ := c_leaveFr (v := 2) J h.1 (by decide) hi e h71
  have J1 := j_leaveL J h.1 hi e h71 h76 (kP_cov h.2 h.1 hi h76)
  have JK := j_losesK J h.1 h.2 hi e h76
  have hB := cE_X1_findLosses_63 (n + 31) (some (n + 32)) x2 (some pk) (nI (k + 1)) M
  have f133 : z_fi (cF_X1_leaveFlight (n + 31) (some pk) 2 M) 133 (n + 31) = r.1 1606 := (F1 133 _ (by decide) (by decide) (by decide)).trans (js_133_31 J)
  have f645 : z_fi (cF_X1_leaveFlight (n + 31) (some pk) 2 M) 645 (n + 1) = r.1 1536 := (F1 645 _ (by decide) (by decide) (by decide)).trans (js_645_1 J)
  have f768 : z_fi (cF_X1_leaveFlight (n + 31) (some pk) 2 M) 768 pk = nI i := (F1 768 _ (by decide) (by decide) (by decide)).trans a4
  have S1 := J1.1
  generalize cF_X1_leaveFlight (n + 31) (some pk) 2 M = W at hB JK f133 f645 f768 S1
  replace hB := hB.trans (q_ste (b := W) rfl)
  replace hB := hB.trans (q_ste (b := n + 32) rfl)
  have g : ∀ g b, g ≠ 911 → z_fi (z_sfi W 911 (n + 32) (z_fi W 911 (n + 32) + 1)) g b = z_fi W g b := fun g b hg => by rw [zq_fi_sfi, if_neg hg]
  have S2 : y_S n (z_sfi W 911 (n + 32) (z_fi W 911 (n + 32) + 1)) := S_sfi S1
  have g133 := (g 133 (n + 31) (by decide)).trans f133
  have g645 := (g 645 (n + 1) (by decide)).trans f645
  have g768 := (g 768 pk (by decide)).trans f768
  generalize z_sfi W 911 (n + 32) (z_fi W 911 (n + 32) + 1) = V at hB JK S2 g133 g645 g768
  replace hB := hB.trans (q_ste (b := V) rfl)
  replace hB := hB.trans (q_ste (b := pk) rfl)
  replace hB := hB.trans (q_ste (b := n + 1) (by rw [s_128_31 S2]; rfl))
  replace hB := hB.trans (q_ste (b := n + 33) (by rw [s_897_32 S2]; rfl))
  rw [g133, g645, g768] at hB
  replace hB := hB.trans (q_ste rfl)
  obtain ⟨h1, f1, -⟩ := kI_loses J.1 h hi h76 hl
  obtain ⟨M', o, b1, b2, b3, b4⟩ := j_low0 JK h1.1 h1.2
  replace hB := hB.trans (q_ste2 b3)
  have e1 : nI (k + 1) + (-1) = nI k := j_p1 (by omega)
  replace hB := hB.trans (q_ste (b := nI k) e1.symm)
  exact ⟨M', o, b2, b4, hB⟩
theorem j_fl12 {x2 : Int32} {m : Nat} : ∀ cnt (M : z_Mem) (r : q_R) (o : Option Nat), JJ n M r TL CL → kI t s q z r → kLow n M r o → rf_c (j_fl r 0) (jN (r.1 1606)) = cnt → m ≤ jN (r.1 1606) → (∀ k, k < jN (r.1 1606) → (pL x2 r k ↔ k < m)) → JJ n (cF_X1_findLosses_12 (n + 31) (some (n + 32)) x2 o (nI cnt) M) (q_lt m 0 r) TL CL := by
  intro cnt
  induction cnt with
  | zero =>
    intro M r o J h _ hc hm _
    have hB := cE_X1_findLosses_12 (n + 31) (some (n + 32)) x2 o (nI 0) M
    rw [if_pos (by decide)] at hB
    rw [cUr_X1_findLosses_12 hB, q_ltO m 0 r (fun k _ hk h76 => ?_)]
    · exact J
    · have := rf_c_pos (p := j_fl r 0) (i := k) (by rw [k_fl0 h.2 (show k < jN (r.1 1606) by omega)]; exact decide_eq_true h76) (show k < jN (r.1 1606) by omega)
      omega
  | succ cnt ih =>
    intro M r o J h hL hc hm hp
    have hb := ri_pk h.1
    have hcl := rf_c_le (p := j_fl r 0) (jN (r.1 1606))
    rcases hL with ⟨i, hi, h76, hk, ho⟩ | ⟨hk, ho⟩
    · obtain ⟨pk, a1, a2, a3, a4, a5⟩ := J.pkt hi
      rw [ho, a1]
      obtain ⟨t1, t2⟩ := c_fl12 (x2 := x2) (x4 := nI (cnt + 1)) J hi a1 (jI_nle0 (by omega) (by omega))
      by_cases ci : i < m
      · have hl := (hp i hi).mpr ci
        have h94 := pL_94 h hi hl
        obtain ⟨M', o', b1, b2, b3⟩ := j_fl63 (x2 := x2) (k := cnt) J h hi a1 h76 h94 (by omega)
        rw [cUl_X1_findLosses_12 ((t1 hl).trans b3)]
        obtain ⟨h1, f1, f2⟩ := kI_loses J.1 h hi h76 h94
        have f76 : ∀ k, (qF_loses (nI i) r).2 76 k = if k = i then 2 else r.2 76 k := fun k => by rw [f2]; exact ua2
        have e6 : (qF_loses (nI i) r).1 1606 = r.1 1606 := f1.1 1606 (by decide)
        rw [q_lt1 ci h76 hk (fun k hk2 => by
          rw [f76]
          by_cases c : k = i
          · rw [if_pos c]; decide
          · rw [if_neg c]; exact hk k (by omega))]
        refine ih M' _ o' b1 h1 b2 ?_ (by rw [e6]; exact hm) (fun k hk2 => ?_)
        · rw [e6]
          have k1 : j_fl r 0 i = true := by rw [k_fl0 h.2 hi]; exact decide_eq_true h76
          have k2 : j_fl (qF_loses (nI i) r) 0 i = false := by
            unfold j_fl
            rw [f76, if_pos rfl]
            exact decide_eq_false (fun h => absurd h.2 (by decide))
          have k3 := rf_c_off k1 k2 _ hi (fun j _ hj => by
            unfold j_fl
            rw [f76, if_neg hj, f1.2 71 (by decide)])
          omega
        · rw [e6] at hk2
          exact (pL_c f1).trans (hp k hk2)
      · have hl : ¬ pL x2 r i := fun hl => ci ((hp i hi).mp hl)
        rw [cUr_X1_findLosses_12 (t2 hl), q_ltO m 0 r (fun k _ hk2 => hk k (by omega))]
        exact J
    · rw [ho]
      have hB := cE_X1_findLosses_12 (n + 31) (some (n + 32)) x2 none (nI (cnt + 1)) M
      rw [if_neg (jI_nle0 (by omega) (by omega))] at hB
      replace hB := hB.trans (q_opn rfl)
      rw [cUr_X1_findLosses_12 hB, q_ltO m 0 r (fun k _ hk2 => hk k (by omega))]
      exact J
theorem j_findL (J : JJ n M r TL CL) (h : kI t s q z r) {x2 : Int32} {m : Nat} (hm : m ≤ jN (r.1 1606)) (hp : ∀ k, k < jN (r.1 1606) → (pL x2 r k ↔ k < m)) : JJ n (cF_X1_findLosses (n + 31) (some (n + 32)) x2 M) (q_lt m 0 r) TL CL := by
  obtain ⟨M', o, b1, b2, b3, b4⟩ := j_low0 J h.1 h.2
  have hB := cE_X1_findLosses (n + 31) (some (n + 32)) x2 M
  replace hB := hB.trans (q_ste2 b3)
  replace hB := hB.trans (q_ste (b := n + 32) rfl)
  have h9 : z_fi M' 899 (n + 32) = nI (rf_c (j_fl r 0) (jN (r.1 1606))) := b2.2.2.2.1.2.2.2.2.2.1 0 (by decide)
  rw [h9] at hB
  replace hB := hB.trans (q_ste rfl)
  rw [hB]
  exact j_fl12 _ M' r o b2 h b4 rfl hm hp
theorem j_findL1 (J : JJ n M r TL CL) (h : kI t s q z r) {x2 : Int32} : JJ n (cF_X1_findLosses (n + 31) (some (n + 35)) x2 M) r TL CL := by
  obtain ⟨M', b1, b2, b3⟩ := j_low1 J h.1 h.2
  have hB := cE_X1_findLosses (n + 31) (some (n + 35)) x2 M
  replace hB := hB.trans (q_ste2 b3)
  replace hB := hB.trans (q_ste (b := n + 35) rfl)
  have h9 : z_fi M' 899 (n + 35) = nI (rf_c (j_fl r 1) (jN (r.1 1606))) := b2.2.2.2.1.2.2.2.2.2.1 1 (by decide)
  rw [h9, k_fl1 h.2] at hB
  replace hB := hB.trans (q_ste rfl)
  rw [hB]
  have hC := cE_X1_findLosses_12 (n + 31) (some (n + 35)) x2 none (nI 0) M'
  rw [if_pos (by decide)] at hC
  rw [cUr_X1_findLosses_12 hC]
  exact b2
/-- the path 0, by time -/
theorem j_findT (J : JJ n M r TL CL) (h : kI t s q z r) : JJ n (cF_X1_findLosses (n + 31) (some (n + 32)) 0 M) (qF_losesByTime 0 r) TL CL ∧ kI t s q z (qF_losesByTime 0 r) ∧ kF r (qF_losesByTime 0 r) := by
  obtain ⟨b, b1, b2⟩ := k_thr (p := pT r) (P := jN (r.1 1606)) (fun j k hj hk hp => pT_dn h.2 h.1 hj hk hp)
  rw [q_byT J.1 h b1 b2]
  obtain ⟨k1, k2, -, -⟩ := q_ltI J.1 b 0 r h (by omega) (fun k _ hk => pT_94 h.2 h.1 (by omega) ((b2 k (by omega)).mpr (by omega)))
  refine ⟨j_findL J h b1 (fun k hk => ⟨fun hl => ?_, fun hl => Or.inl ((b2 k hk).mpr hl)⟩), k1, k2⟩
  rcases hl with hl | hl
  · exact (b2 k hk).mp hl
  · exact absurd rfl hl.1
/-- the path 0, by order and by time -/
theorem j_findOT (J : JJ n M r TL CL) (h : kI t s q z r) : JJ n (cF_X1_findLosses (n + 31) (some (n + 32)) 1 M) (qF_losesByTime 0 (qF_losesByOrder 0 r)) TL CL ∧ kI t s q z (qF_losesByTime 0 (qF_losesByOrder 0 r)) ∧ kF r (qF_losesByTime 0 (qF_losesByOrder 0 r)) := by
  obtain ⟨a, a1, a2⟩ := k_thr (p := pO r) (P := jN (r.1 1606)) (fun j k hj hk hp => pO_dn h.2 h.1 hj hk hp)
  obtain ⟨b, b1, b2⟩ := k_thr (p := pT r) (P := jN (r.1 1606)) (fun j k hj hk hp => pT_dn h.2 h.1 hj hk hp)
  have hla : ∀ k, k < a → (k : Int) < (r.2 94 0).toInt := fun k hk => pO_94 h.2 h.1 (by omega) ((a2 k (by omega)).mpr hk)
  have hlb : ∀ k, k < b → (k : Int) < (r.2 94 0).toInt := fun k hk => pT_94 h.2 h.1 (by omega) ((b2 k (by omega)).mpr hk)
  obtain ⟨k1, k2, -, -⟩ := q_ltI J.1 a 0 r h (by omega) (fun k _ hk => hla k (by omega))
  have e6 : (q_lt a 0 r).1 1606 = r.1 1606 := k2.1 1606 (by decide)
  rw [q_byO J.1 h a1 a2, q_byT J.1 k1 (a := b) (by rw [e6]; exact b1) (fun k hk => by rw [e6] at hk; exact (pT_c k2).trans (b2 k hk)), q_ltM J.1 h a1 hla]
  have hm : (if a < b then b else a) ≤ jN (r.1 1606) := by split <;> omega
  have hi : ∀ k, k < (if a < b then b else a) → k < a ∨ k < b := fun k hk => by
    by_cases c : a < b
    · rw [if_pos c] at hk; exact Or.inr hk
    · rw [if_neg c] at hk; exact Or.inl hk
  have hi2 : ∀ k, (k < a ∨ k < b) → k < (if a < b then b else a) := fun k hk => by
    by_cases c : a < b
    · rw [if_pos c]; omega
    · rw [if_neg c]; omega
  obtain ⟨l1, l2, -, -⟩ := q_ltI J.1 (if a < b then b else a) 0 r h (by omega) (fun k _ hk => by
    rcases hi k (by omega) with hk | hk
    · exact hla k hk
    · exact hlb k hk)
  refine ⟨j_findL J h hm (fun k hk => ⟨fun hl => ?_, fun hl => ?_⟩), l1, l2⟩
  · rcases hl with hl | hl
    · exact hi2 k (Or.inr ((b2 k hk).mp hl))
    · exact hi2 k (Or.inl ((a2 k hk).mp hl.2))
  · rcases hi k hl with hl | hl
    · exact Or.inr ⟨by decide, (a2 k hk).mpr hl⟩
    · exact Or.inl ((b2 k hk).mpr hl)
end JFL
