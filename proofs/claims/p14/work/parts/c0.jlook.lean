/-! ===== THE LIKENESS: probes, and what the time brings ===== -/
section JLK
variable {n : Nat} {M M0 M1 M2 M3 : z_Mem} {r r1 r2 : q_R} {TL CL : List Nat} {t s q z : Nat}
/-- the wait, and how often it is doubled -/
def k_pw (r : q_R) : Int32 := r.2 87 0 / 8 + (if 1 < r.2 88 0 then r.2 88 0 else 1) + 3
def k_ps (r : q_R) : Int32 := if 6 < r.2 96 0 then 6 else r.2 96 0
def kLowR (r : q_R) (o : Option Nat) : Prop := (∃ f, o = some f ∧ f < jN (r.1 1606) ∧ r.2 76 f = 0 ∧ ∀ k, k < f → ¬ r.2 76 k = 0) ∨ (o = none ∧ ∀ k, k < jN (r.1 1606) → ¬ r.2 76 k = 0)
def k_on (o : Option Nat) : Int32 := match o with | none => -1 | some f => nI f
theorem q_pr9 (h : kI t s q z r) : ∀ (k : Nat) (o : Option Nat), k ≤ jN (r.1 1606) → ((∃ f, o = some f ∧ k ≤ f ∧ f < jN (r.1 1606) ∧ r.2 76 f = 0 ∧ ∀ i, k ≤ i → i < f → ¬ r.2 76 i = 0) ∨ (o = none ∧ ∀ i, k ≤ i → i < jN (r.1 1606) → ¬ r.2 76 i = 0)) → ∃ o', kLowR r o' ∧ qF_probesOn_9 0 (k_on o) (nI k + (-1)) r = qF_probesOn_88 0 (k_on o') (k_pw r) (k_ps r) r := by
  have hb := ri_pk h.1
  have e0 : (0 : Int32).toNatClampNeg = 0 := rfl
  intro k
  induction k with
  | zero =>
    intro o hk ho
    have hQ := qE_probesOn_9 0 (k_on o) (nI 0 + (-1)) r
    rw [if_pos (by decide), e0, q_maxe] at hQ
    replace hQ := hQ.trans (q_ste2 rfl)
    refine ⟨o, ?_, ?_⟩
    · rcases ho with ⟨f, h1, h2, h3, h4, h5⟩ | ⟨h1, h2⟩
      · exact Or.inl ⟨f, h1, h3, h4, fun i hi => h5 i (Nat.zero_le _) hi⟩
      · exact Or.inr ⟨h1, fun i hi => h2 i (Nat.zero_le _) hi⟩
    · unfold k_pw k_ps
      by_cases c : r.2 96 0 ≤ 6
      · rw [if_pos c] at hQ
        rw [Int32.le_iff_toInt_le] at c
        rw [if_neg (show ¬ (6 : Int32) < r.2 96 0 by rw [Int32.lt_iff_toInt_lt]; omega)]
        exact qUr_probesOn_9 hQ
      · rw [if_neg c] at hQ
        rw [Int32.le_iff_toInt_le] at c
        rw [if_pos (show (6 : Int32) < r.2 96 0 by rw [Int32.lt_iff_toInt_lt]; omega)]
        exact qUr_probesOn_9 hQ
  | succ k ih =>
    intro o hk ho
    have hkP : k < jN (r.1 1606) := by omega
    have e1 : nI (k + 1) + (-1) = nI k := j_p1 (by omega)
    rw [e1]
    have hQ := qE_probesOn_9 0 (k_on o) (nI k) r
    rw [if_neg (jI_nlt0 (by omega)), jI_N (by omega : k < 2147483648), if_pos (h.2.1.2.2.1 k hkP).1] at hQ
    have h37 : ∀ x : Int32, qF_probesOn_37 0 (nI k) x r = .inl (0, x, nI k + (-1), r) := fun x => (qE_probesOn_37 0 (nI k) x r).trans (q_ste rfl)
    by_cases c : r.2 76 k = 0
    · rw [if_pos c] at hQ
      rw [qUl_probesOn_9 (hQ.trans (h37 (nI k)))]
      exact ih (some k) (by omega) (Or.inl ⟨k, rfl, Nat.le_refl _, hkP, c, fun i h1 h2 => absurd h2 (by omega)⟩)
    · rw [if_neg c] at hQ
      have h36 := qE_probesOn_36 0 (k_on o) (nI k) r
      rw [qUl_probesOn_9 (hQ.trans (h36.trans (h37 (k_on o))))]
      refine ih o (by omega) ?_
      rcases ho with ⟨f, h1, h2, h3, h4, h5⟩ | ⟨h1, h2⟩
      · refine Or.inl ⟨f, h1, by omega, h3, h4, fun i hi1 hi2 => ?_⟩
        by_cases ci : i = k
        · rw [ci]; exact c
        · exact h5 i (by omega) hi2
      · refine Or.inr ⟨h1, fun i hi1 hi2 => ?_⟩
        by_cases ci : i = k
        · rw [ci]; exact c
        · exact h2 i (by omega) hi2
theorem q_pr (h : kI t s q z r) : ∃ o', kLowR r o' ∧ qF_probesOn 0 r = qF_probesOn_88 0 (k_on o') (k_pw r) (k_ps r) r := by
  have hb := ri_pk h.1
  have hP := ri_P h.1
  have iP := jI_jN hP.1
  obtain ⟨o', h1, h2⟩ := q_pr9 h (jN (r.1 1606)) none (Nat.le_refl _) (Or.inr ⟨rfl, fun i a b => absurd b (by omega)⟩)
  have hQ := qE_probesOn 0 r
  rw [Int32.sub_eq_add_neg, ← iP] at hQ
  replace hQ := hQ.trans (q_ste rfl)
  exact ⟨o', h1, hQ.trans h2⟩
theorem q_pr1 (h : kI t s q z r) : qF_probesOn 1 r = r := by
  have hb := ri_pk h.1
  have hP := ri_P h.1
  have iP := jI_jN hP.1
  have st : ∀ k, k ≤ jN (r.1 1606) → qF_probesOn_9 1 (-1) (nI k + (-1)) r = r := by
    intro k
    induction k with
    | zero =>
      intro _
      have hQ := qE_probesOn_9 1 (-1) (nI 0 + (-1)) r
      have h88 : ∀ x y : Int32, qF_probesOn_88 1 (-1) x y r = r := fun x y => by
        have h1 := qE_probesOn_88 1 (-1) x y r
        replace h1 := h1.trans (q_ste rfl)
        rw [if_pos rfl] at h1
        exact h1
      rw [if_pos (by decide), q_maxe] at hQ
      replace hQ := hQ.trans (q_ste2 rfl)
      rw [h88, h88] at hQ
      by_cases c : r.2 96 (1 : Int32).toNatClampNeg ≤ 6
      · rw [if_pos c] at hQ; exact qUr_probesOn_9 hQ
      · rw [if_neg c] at hQ; exact qUr_probesOn_9 hQ
    | succ k ih =>
      intro hk
      have hkP : k < jN (r.1 1606) := by omega
      have e1 : nI (k + 1) + (-1) = nI k := j_p1 (by omega)
      rw [e1]
      have hQ := qE_probesOn_9 1 (-1) (nI k) r
      rw [if_neg (jI_nlt0 (by omega)), jI_N (by omega : k < 2147483648), (h.2.1.2.2.1 k hkP).1, if_neg (by decide)] at hQ
      have h36 := qE_probesOn_36 1 (-1) (nI k) r
      have h37 := qE_probesOn_37 1 (nI k) (-1) r
      replace h37 := h37.trans (q_ste rfl)
      rw [qUl_probesOn_9 (hQ.trans (h36.trans h37))]
      exact ih (by omega)
  have hQ := qE_probesOn 1 r
  rw [Int32.sub_eq_add_neg, ← iP] at hQ
  replace hQ := hQ.trans (q_ste rfl)
  exact hQ.trans (st _ (Nat.le_refl _))
theorem j_due0 (J : JJ n M r TL CL) : cF_X7_isProbeDue (n + 32) (r.1 1536) M = ((if rf_c (j_fl r 0) (jN (r.1 1606)) = 0 then 0 else if r.1 1536 - r.2 95 0 < k_pw r <<< (k_ps r &&& 31) then 0 else 1 : Int32), M) := by
  have hB := cE_X7_isProbeDue (n + 32) (r.1 1536) M
  have h9 : z_fi M 899 (n + 32) = nI (rf_c (j_fl r 0) (jN (r.1 1606))) := J.2.2.2.1.2.2.2.2.2.1 0 (by decide)
  rw [js_900_32 J, js_901_32 J, h9, js_908_32 J, js_910_32 J] at hB
  replace hB := hB.trans (q_ste (b := k_pw r) rfl)
  have e6 : (if (6 : Int32) < r.2 96 0 then 6 else r.2 96 0 : Int32) = k_ps r := rfl
  rw [e6] at hB
  have hl := rf_c_le (p := j_fl r 0) (jN (r.1 1606))
  have hlt := Int32.toInt_lt (r.1 1606)
  have hN : jN (r.1 1606) < 2147483648 := by unfold jN Int32.toNatClampNeg; omega
  by_cases c : rf_c (j_fl r 0) (jN (r.1 1606)) = 0
  · rw [c, if_pos (by decide)] at hB
    rw [if_pos c]; exact hB
  · rw [if_neg (jI_nle0 (by omega) (by omega))] at hB
    rw [if_neg c]
    by_cases c2 : r.1 1536 - r.2 95 0 < k_pw r <<< (k_ps r &&& 31)
    · rw [if_pos c2] at hB ⊢; exact hB
    · rw [if_neg c2] at hB ⊢; exact hB
theorem j_probe0 {Ph : q_R → Prop} (hS : kSt t s q z Ph) (J : JJ n M r TL CL) (h : kI t s q z r) (ph : Ph r) : JJ n (cF_X1_probeInTime (n + 31) (some (n + 32)) M) (qF_probesOn 0 r) TL CL ∧ kI t s q z (qF_probesOn 0 r) ∧ Ph (qF_probesOn 0 r) := by
  have e0 : (0 : Int32).toNatClampNeg = 0 := rfl
  have hb := ri_pk h.1
  have hP := ri_P h.1
  have nP := jN_toInt hP.1
  have iP := jI_jN hP.1
  have hB := cE_X1_probeInTime (n + 31) (some (n + 32)) M
  replace hB := hB.trans (q_ste (b := n + 1) (by rw [s_128_31 J.1]; rfl))
  replace hB := hB.trans (q_ste (b := n + 32) rfl)
  rw [js_645_1 J] at hB
  replace hB := hB.trans (q_ste2 (j_due0 J))
  have h23n := cE_X1_probeInTime_23 (n + 31) (some (n + 32)) none M
  replace h23n := h23n.trans (q_opn rfl)
  obtain ⟨o, o1, o2⟩ := q_pr h
  have hQ := qE_probesOn_88 0 (k_on o) (k_pw r) (k_ps r) r
  replace hQ := hQ.trans (q_ste (b := k_pw r <<< (k_ps r &&& 31)) rfl)
  rw [e0] at hQ
  rcases o1 with ⟨f, ho, hf, f76, fk⟩ | ⟨ho, fk⟩
  · have kf : k_on o = nI f := by rw [ho]; rfl
    rw [kf, if_neg (nI_m1 (by omega))] at hQ
    rw [kf] at o2
    have hc0 : ¬ rf_c (j_fl r 0) (jN (r.1 1606)) = 0 := fun c => by
      have := rf_c_pos (p := j_fl r 0) (i := f) (by rw [k_fl0 h.2 hf]; exact decide_eq_true f76) hf
      omega
    rw [if_neg hc0] at hB
    by_cases c2 : r.1 1536 - r.2 95 0 < k_pw r <<< (k_ps r &&& 31)
    · rw [if_pos c2, if_pos rfl] at hB
      rw [if_pos c2] at hQ
      have hQ2 : qF_probesOn 0 r = r := by
        rw [o2, hQ]
        split <;> rfl
      rw [hB, h23n, hQ2]
      exact ⟨J, h, ph⟩
    · rw [if_neg c2, if_neg (by decide)] at hB
      rw [if_neg c2] at hQ
      obtain ⟨M', o', b1, b2, b3, b4⟩ := j_low0 J h.1 h.2
      replace hB := hB.trans (q_ste2 b3)
      rcases b4 with ⟨i, i1, i2, i3, i4⟩ | ⟨i1, i2⟩
      · have ei : i = f := by
          rcases Nat.lt_trichotomy i f with c | c | c
          · exact absurd i2 (fk i c)
          · exact c
          · exact absurd f76 (i3 f c)
        rw [ei] at i4
        obtain ⟨pk, a1, a2, a3, a4, a5⟩ := b2.pkt hf
        rw [i4, a1] at hB
        have hC := cE_X1_probeInTime_23 (n + 31) (some (n + 32)) (some pk) M'
        replace hC := hC.trans (q_ops rfl)
        rw [js_133_31 b2] at hC
        by_cases c4 : 400 ≤ r.1 1606
        · rw [if_pos c4] at hC hQ
          rw [hB, hC, o2, hQ]
          exact ⟨b2, h, ph⟩
        · rw [if_neg c4] at hC hQ
          rw [Int32.le_iff_toInt_le, show (400 : Int32).toInt = 400 from rfl] at c4
          have hP4 : jN (r.1 1606) < 400 := by omega
          replace hC := hC.trans (q_ste (b := n + 32) rfl)
          have J1 : JJ n (z_sfi M' 913 (n + 32) (z_fi M' 913 (n + 32) + 1)) r TL CL := b2.fc rfl (by decide)
          have f1 : ∀ g, g ≠ 913 → z_fi (z_sfi M' 913 (n + 32) (z_fi M' 913 (n + 32) + 1)) g pk = z_fi M' g pk := fun g hg => by rw [zq_fi_sfi, if_neg hg]
          replace hC := hC.trans (q_ste (b := z_sfi M' 913 (n + 32) (z_fi M' 913 (n + 32) + 1)) rfl)
          generalize z_sfi M' 913 (n + 32) (z_fi M' 913 (n + 32) + 1) = W at hC J1 f1
          rw [js_910_32 J1] at hC
          have J2 : JJ n (z_sfi W 910 (n + 32) (r.2 96 0 + 1)) (ua (ua r 96 0 (r.2 96 0 + 1)) 106 2 (r.2 106 2 + 1)) TL CL := (J1.sa (x := 96) (j := 0) rfl (by decide) (by decide)).ra (by decide)
          replace hC := hC.trans (q_ste (b := z_sfi W 910 (n + 32) (r.2 96 0 + 1)) rfl)
          obtain ⟨sN, a, m, hs, ham, e3, e4, e5⟩ := ri_by h.1 f
          have f2 : ∀ g, g ≠ 913 → g ≠ 910 → z_fi (z_sfi W 910 (n + 32) (r.2 96 0 + 1)) g pk = z_fi M' g pk := fun g h1 h2 => by rw [zq_fi_sfi, if_neg h2, f1 g h1]
          rw [f2 771 (by decide) (by decide), f2 772 (by decide) (by decide), f2 773 (by decide) (by decide), jp_771 a5, jp_772 a5, jp_773 a5, e3, e4, e5] at hC
          replace hC := hC.trans (q_ste rfl)
          have e2 : (2 : Int32).toNatClampNeg = 2 := rfl
          rw [e2] at hQ
          replace hQ := hQ.trans (q_ste (b := ua r 96 0 (r.2 96 0 + 1)) rfl)
          replace hQ := hQ.trans (q_ste (b := ua (ua r 96 0 (r.2 96 0 + 1)) 106 2 (r.2 106 2 + 1)) (by rw [ua_n (show 106 ≠ 96 by decide)]))
          rw [jI_N (by omega : f < 2147483648)] at hQ
          rw [show (ua (ua r 96 0 (r.2 96 0 + 1)) 106 2 (r.2 106 2 + 1)).2 73 f = nI sN by rw [ua_n (by decide), ua_n (by decide)]; exact e3, show (ua (ua r 96 0 (r.2 96 0 + 1)) 106 2 (r.2 106 2 + 1)).2 74 f = nI a by rw [ua_n (by decide), ua_n (by decide)]; exact e4, show (ua (ua r 96 0 (r.2 96 0 + 1)) 106 2 (r.2 106 2 + 1)).2 75 f = nI m by rw [ua_n (by decide), ua_n (by decide)]; exact e5] at hQ
          replace hQ := hQ.trans (q_ste rfl)
          have h67 := h.2.2.2.1.2.2 f sN hf hs e3
          rw [e4, e5, jI_t (by omega), jI_t (by omega)] at h67
          have h2 : kI t s q z (ua (ua r 96 0 (r.2 96 0 + 1)) 106 2 (r.2 106 2 + 1)) := kI_ua (kI_ua h (by decide) (by decide)) (by decide) (by decide)
          have p2 : Ph (ua (ua r 96 0 (r.2 96 0 + 1)) 106 2 (r.2 106 2 + 1)) := hS.1 _ 106 2 _ (by decide) (hS.1 _ 96 0 _ (by decide) ph)
          have k67 : (ua (ua r 96 0 (r.2 96 0 + 1)) 106 2 (r.2 106 2 + 1)).2 67 = r.2 67 := by rw [ua_n (by decide), ua_n (by decide)]
          have hP2 : (ua (ua r 96 0 (r.2 96 0 + 1)) 106 2 (r.2 106 2 + 1)).1 1606 = nI (jN (r.1 1606)) := iP.symm
          generalize ua (ua r 96 0 (r.2 96 0 + 1)) 106 2 (r.2 106 2 + 1) = R at J2 hQ h2 p2 k67 hP2
          generalize z_sfi W 910 (n + 32) (r.2 96 0 + 1) = V at hC J2
          have ev : R.2 67 sN = (if R.2 67 sN < nI (a + m) then nI (a + m) else R.2 67 sN : Int32) := by
            rw [if_neg (fun c => by rw [Int32.lt_iff_toInt_lt, jI_t (by omega), k67] at c; omega)]
          have JS := j_sendG (b := 1) (v := R.2 67 sN) J2 h2 hP2 hP4 hs ham ev (fun c => by
            rw [Int32.lt_iff_toInt_lt, jI_t (by omega), k67] at c
            omega) (by rw [ua_id rfl]; exact h2.1)
          rw [ua_id rfl] at JS
          obtain ⟨k1, k2, k3⟩ := kI_sends (b := 1) J.1 h2 hP2 hP4 hs ham (by rw [k67]; omega)
          have k4 := hS.2.1 R (jN (r.1 1606)) sN a m 1 h2 hP2 hP4 hs ham p2
          rw [hB, hC, o2, hQ]
          exact ⟨JS, k1, k4⟩
      · exact absurd f76 (i1 f hf)
  · have kf : k_on o = -1 := by rw [ho]; rfl
    rw [kf, if_pos rfl] at hQ
    rw [kf] at o2
    have hc0 : rf_c (j_fl r 0) (jN (r.1 1606)) = 0 := by
      have k : ∀ i, i ≤ jN (r.1 1606) → rf_c (j_fl r 0) i = 0 := by
        intro i
        induction i with
        | zero => intro _; rfl
        | succ i ih2 =>
          intro hi
          show rf_c (j_fl r 0) i + (if j_fl r 0 i = true then 1 else 0) = 0
          rw [ih2 (by omega), k_fl0 h.2 (show i < jN (r.1 1606) by omega), decide_eq_false (fk i (by omega))]
          rfl
      exact k _ (Nat.le_refl _)
    rw [if_pos hc0, if_pos rfl] at hB
    rw [hB, h23n, o2, hQ]
    exact ⟨J, h, ph⟩
theorem j_probe1 (J : JJ n M r TL CL) (h : kI t s q z r) : JJ n (cF_X1_probeInTime (n + 31) (some (n + 35)) M) r TL CL := by
  have hB := cE_X1_probeInTime (n + 31) (some (n + 35)) M
  replace hB := hB.trans (q_ste (b := n + 1) (by rw [s_128_31 J.1]; rfl))
  replace hB := hB.trans (q_ste (b := n + 35) rfl)
  have h9 : z_fi M 899 (n + 35) = nI (rf_c (j_fl r 1) (jN (r.1 1606))) := J.2.2.2.1.2.2.2.2.2.1 1 (by decide)
  rw [k_fl1 h.2] at h9
  have hD := cE_X7_isProbeDue (n + 35) (z_fi M 645 (n + 1)) M
  replace hD := hD.trans (q_ste rfl)
  rw [h9, if_pos (by decide)] at hD
  replace hB := hB.trans (q_ste2 hD)
  rw [if_pos rfl] at hB
  have h23n := cE_X1_probeInTime_23 (n + 31) (some (n + 35)) none M
  replace h23n := h23n.trans (q_opn rfl)
  rw [hB, h23n]
  exact J
end JLK
