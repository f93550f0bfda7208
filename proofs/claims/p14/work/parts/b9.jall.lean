/-! ===== THE LIKENESS: the client sends, as long as it can ===== -/
section JAL
variable {n : Nat} {M M0 M1 M2 M3 : z_Mem} {r r1 r2 : q_R} {TL CL : List Nat} {t s q z : Nat}
theorem q_inFl2 (h : kI t s q z r) : ∀ m k, k + m = jN (r.1 1606) → qF_inFlight_4 0 (nI (rf_c (j_fl r 0) k)) (nI k) r = (nI (rf_c (j_fl r 0) (jN (r.1 1606))), r) := by
  have hb := ri_pk h.1
  have hP := ri_P h.1
  have hPN := jN_toInt hP.1
  intro m
  induction m with
  | zero =>
    intro k hk
    have hQ := qE_inFlight_4 0 (nI (rf_c (j_fl r 0) k)) (nI k) r
    rw [if_pos (by rw [Int32.le_iff_toInt_le, jI_t (by omega)]; omega)] at hQ
    rw [qUr_inFlight_4 hQ, show k = jN (r.1 1606) by omega]
  | succ m ih =>
    intro k hk
    have hkP : k < jN (r.1 1606) := by omega
    have hl := rf_c_le (p := j_fl r 0) k
    have hQ := qE_inFlight_4 0 (nI (rf_c (j_fl r 0) k)) (nI k) r
    rw [if_neg (by rw [Int32.le_iff_toInt_le, jI_t (by omega)]; omega), jI_N (by omega : k < 2147483648), if_pos (h.2.1.2.2.1 k hkP).1] at hQ
    have e1 : nI (k + 1) = nI k + 1 := by rw [jI_1, jI_add (by omega)]
    have hs : rf_c (j_fl r 0) (k + 1) = rf_c (j_fl r 0) k + (if j_fl r 0 k = true then 1 else 0) := rfl
    rw [k_fl0 h.2 hkP] at hs
    by_cases c : r.2 76 k = 0
    · rw [if_pos c] at hQ
      rw [decide_eq_true c, if_pos rfl] at hs
      have hR := qE_inFlight_37 0 (nI k) (nI (rf_c (j_fl r 0) k)) 1 r
      replace hR := hR.trans (q_ste (b := nI (rf_c (j_fl r 0) (k + 1))) (by rw [hs, jI_1, jI_add (by omega)]))
      replace hR := hR.trans (q_ste (b := nI (k + 1)) e1)
      rw [qUl_inFlight_4 (hQ.trans hR)]
      exact ih (k + 1) (by omega)
    · rw [if_neg c] at hQ
      rw [decide_eq_false c] at hs
      have hR := qE_inFlight_36 0 (nI k) (nI (rf_c (j_fl r 0) k)) r
      have hR2 := qE_inFlight_37 0 (nI k) (nI (rf_c (j_fl r 0) k)) 0 r
      replace hR2 := hR2.trans (q_ste (b := nI (rf_c (j_fl r 0) (k + 1))) (by rw [hs, Int32.add_zero]; rfl))
      replace hR2 := hR2.trans (q_ste (b := nI (k + 1)) e1)
      rw [qUl_inFlight_4 (hQ.trans (hR.trans hR2))]
      exact ih (k + 1) (by omega)
theorem q_inFl (h : kI t s q z r) : qF_inFlight 0 r = (nI (rf_c (j_fl r 0) (jN (r.1 1606))), r) := by
  have hQ := qE_inFlight 0 r
  exact hQ.trans (q_inFl2 h (jN (r.1 1606)) 0 (by omega))
theorem j_max2 {a x y : Int32} (e : y = (if a < x then x else a)) : qF_max a x r = (y, r) := by rw [q_maxe, e]
/-- whether the path 0 can take a packet -/
theorem j_can (J : JJ n M r TL CL) (h : kI t s q z r) : ∃ x : Int32, (x = 0 ∨ x = 1) ∧ cF_X7_canSend (n + 32) M = (x, M) ∧ qF_canTake 0 r = (x, r) := by
  have e0 : (0 : Int32).toNatClampNeg = 0 := rfl
  have h9 : z_fi M 899 (n + 32) = nI (rf_c (j_fl r 0) (jN (r.1 1606))) := J.2.2.2.1.2.2.2.2.2.1 0 (by decide)
  have hB := cE_X7_canSend (n + 32) M
  replace hB := hB.trans (q_ste (b := n + 33) (by rw [s_897_32 J.1]; rfl))
  rw [h9, js_257_33 J, Int32.mul_comm] at hB
  have hM := cE_X7_mostPerTick (n + 32) M
  replace hM := hM.trans (q_ste (b := n + 33) (by rw [s_897_32 J.1]; rfl))
  rw [js_257_33 J, js_900_32 J] at hM
  generalize hx6 : (if 1 < r.2 87 0 / 8 then r.2 87 0 / 8 else 1 : Int32) = x6 at hM
  replace hM := hM.trans (q_ste (b := r.2 84 0 / 16 * 2) rfl)
  replace hM := hM.trans (q_ste (b := x6) rfl)
  have hQ := qE_canTake 0 r
  rw [e0] at hQ
  replace hQ := hQ.trans (q_ste2 (j_max2 hx6.symm))
  generalize hx7 : (if 2 < (r.2 84 0 / 16 * 2 + x6 - 1) / x6 then (r.2 84 0 / 16 * 2 + x6 - 1) / x6 else 2 : Int32) = x7 at hM
  replace hQ := hQ.trans (q_ste2 (j_max2 hx7.symm))
  rw [h.2.1.1, if_neg (by decide), if_pos rfl] at hQ
  have hR := qE_canTake_52 0 x7 r
  rw [e0] at hR
  replace hR := hR.trans (q_ste2 (q_inFl h))
  by_cases c : r.2 84 0 < 16 * (nI (rf_c (j_fl r 0) (jN (r.1 1606))) + 1)
  · rw [if_pos c] at hB hR
    exact ⟨0, Or.inl rfl, hB, hQ.trans hR⟩
  · rw [if_neg c] at hB hR
    replace hB := hB.trans (q_ste2 hM)
    rw [js_909_32 J] at hB
    by_cases c2 : x7 ≤ r.2 105 0
    · rw [if_pos c2] at hB hR
      exact ⟨0, Or.inl rfl, hB, hQ.trans hR⟩
    · rw [if_neg c2] at hB hR
      exact ⟨1, Or.inr rfl, hB, hQ.trans hR⟩
/-- the path that sends next -/
theorem j_next0 (J : JJ n M r TL CL) (h : kI t s q z r) : (cF_X1_routeToSend (n + 31) M = (none, M) ∧ qF_nextPath r = (-1, r)) ∨ (cF_X1_routeToSend (n + 31) M = (some (n + 32), M) ∧ qF_nextPath r = (0, r)) := by
  obtain ⟨x, hx, c1, c2⟩ := j_can J h
  have h143 : z_fi M 143 (n + 31) = 0 := (js_143_31 J).trans h.2.1.1
  have hB := cE_X1_routeToSend (n + 31) M
  rw [h143, if_neg (by decide)] at hB
  replace hB := hB.trans (q_ste (b := n + 32) (by rw [s_130_31 J.1]; rfl))
  replace hB := hB.trans (q_ste2 c1)
  have h23 : ∀ t0 : Int32, cF_X1_routeToSend_23 (n + 31) t0 M = cF_X1_routeToSend_84 (n + 31) t0 0 M := fun t0 => by
    have h1 := cE_X1_routeToSend_23 (n + 31) t0 M
    rw [h143, if_pos rfl] at h1
    have h2 := cE_X1_routeToSend_45 (n + 31) t0 M
    have h3 := cE_X1_routeToSend_46 (n + 31) t0 0 M
    rw [h1, h2, h3]
    by_cases c : t0 = 0
    · rw [if_pos c]
    · rw [if_neg c, if_pos rfl]
  have hQ := qE_nextPath r
  replace hQ := hQ.trans (q_ste2 c2)
  have h2 : qF_canTake 1 r = (0, r) := by
    have hR := qE_canTake 1 r
    rw [q_maxe] at hR
    replace hR := hR.trans (q_ste2 rfl)
    rw [q_maxe] at hR
    replace hR := hR.trans (q_ste2 rfl)
    rw [h.2.1.1, if_neg (by decide), if_neg (by decide)] at hR
    exact hR
  replace hQ := hQ.trans (q_ste2 h2)
  rcases hx with rfl | rfl
  · left
    rw [if_pos rfl] at hB
    have h22 := cE_X1_routeToSend_22 (n + 31) M
    have h84 := cE_X1_routeToSend_84 (n + 31) 0 0 M
    rw [if_pos rfl, if_pos rfl] at h84
    rw [if_pos rfl, if_pos rfl, if_pos rfl] at hQ
    exact ⟨hB.trans (h22.trans ((h23 0).trans h84)), hQ⟩
  · right
    rw [if_neg (by decide)] at hB
    have h84 := cE_X1_routeToSend_84 (n + 31) 1 0 M
    rw [if_neg (by decide), s_130_31 J.1] at h84
    rw [if_neg (by decide), if_pos rfl, if_neg (by decide)] at hQ
    exact ⟨hB.trans ((h23 1).trans h84), hQ⟩
/-- a property that sending keeps -/
def kSt (t s q z : Nat) (Ph : q_R → Prop) : Prop := (∀ (r : q_R) (x j : Nat) (v : Int32), x ∈ [96, 105, 106] → Ph r → Ph (ua r x j v)) ∧ (∀ (r : q_R) (P sN a m : Nat) (b : Int32), kI t s q z r → r.1 1606 = nI P → P < 400 → sN < 4 → a + m ≤ 200 → Ph r → Ph (qF_sends 0 (nI sN) (nI a) (nI m) b r)) ∧ (∀ (r : q_R) (l : Int32) (j : Nat) (v : Int32), Ph r → Ph (ua (uf r 1590 l) 67 j v))
theorem q_44z : qF_sendsAll_44 0 r = r := by
  have hQ := qE_sendsAll_44 0 r
  rw [if_pos rfl] at hQ
  exact qUr_sendsAll_44 hQ
theorem q_84 {x2 : Int32} : qF_sendsAll_84 x2 r = .inl (0, r) := by
  rw [qE_sendsAll_84, qE_sendsAll_85, if_pos rfl, qE_sendsAll_100]
theorem q_44n (h : qB_sendsAll_44 1 r = .inl (0, r1)) : qF_sendsAll_44 1 r = r1 := (qUl_sendsAll_44 h).trans q_44z
theorem j_all46 {Ph : q_R → Prop} (hS : kSt t s q z Ph) : ∀ m P (M : z_Mem) (r : q_R), P + m = 400 → r.1 1606 = nI P → JJ n M r TL CL → kI t s q z r → Ph r → ∃ M' r', JJ n M' r' TL CL ∧ kI t s q z r' ∧ Ph r' ∧ cF_X1_sendData_46 (n + 31) (nI P) M = M' ∧ qF_sendsAll_44 1 r = r' := by
  intro m
  induction m with
  | zero =>
    intro P M r hm hP J h ph
    have e : P = 400 := by omega
    subst e
    have hB := cE_X1_sendData_46 (n + 31) (nI 400) M
    rw [if_pos (by decide)] at hB
    have hQ := qE_sendsAll_44 1 r
    rw [if_neg (by decide), hP, if_pos (by decide)] at hQ
    have h66 := qE_sendsAll_66 (-1) r
    rw [if_pos rfl, q_84] at h66
    exact ⟨M, r, J, h, ph, cUr_X1_sendData_46 hB, q_44n (hQ.trans h66)⟩
  | succ m ih =>
    intro P M r hm hP J h ph
    have hP4 : P < 400 := by omega
    have hc : ¬ (400 : Int32) ≤ nI P := fun c => by rw [show (400 : Int32) = nI 400 from rfl, jI_le (by omega) (by omega)] at c; omega
    have hB := cE_X1_sendData_46 (n + 31) (nI P) M
    rw [if_neg hc] at hB
    have hQ := qE_sendsAll_44 1 r
    rw [if_neg (by decide), hP, if_neg hc] at hQ
    rcases j_next0 J h with ⟨c1, c2⟩ | ⟨c1, c2⟩
    · replace hB := hB.trans (q_ste2 c1)
      replace hB := hB.trans (q_opn rfl)
      replace hQ := hQ.trans (q_ste2 c2)
      have h66 := qE_sendsAll_66 (-1) r
      rw [if_pos rfl, q_84] at h66
      exact ⟨M, r, J, h, ph, cUr_X1_sendData_46 hB, q_44n (hQ.trans h66)⟩
    · replace hB := hB.trans (q_ste2 c1)
      replace hB := hB.trans (q_ops rfl)
      replace hQ := hQ.trans (q_ste2 c2)
      have h66 := qE_sendsAll_66 0 r
      rw [if_neg (by decide)] at h66
      have hN := qE_sendsNext 0 r
      have hL := cE_X1_sendLost (n + 31) (some (n + 32)) M
      have go : ∀ (W : z_Mem) (R : q_R), JJ n W R TL CL → kI t s q z R → Ph R → R.1 1606 = nI (P + 1) → qF_sendsNext 0 r = (1, R) → cB_X1_sendData_46 (n + 31) (nI P) M = cF_X1_sendData_81 (n + 31) (nI P) (some (n + 32)) W → ∃ M' r', JJ n M' r' TL CL ∧ kI t s q z r' ∧ Ph r' ∧ cF_X1_sendData_46 (n + 31) (nI P) M = M' ∧ qF_sendsAll_44 1 r = r' := fun W R J1 h1 ph1 hP1 eN eB => by
        have e0 : (0 : Int32).toNatClampNeg = 0 := rfl
        have e1 : nI (P + 1) = nI P + 1 := by rw [jI_1, jI_add (by omega)]
        have hC := cE_X1_sendData_81 (n + 31) (nI P) (some (n + 32)) W
        replace hC := hC.trans (q_ste (b := n + 32) rfl)
        rw [js_909_32 J1] at hC
        replace hC := hC.trans (q_ste (b := z_sfi W 909 (n + 32) (R.2 105 0 + 1)) rfl)
        replace hC := hC.trans (q_ste (b := nI (P + 1)) e1)
        have J2 := J1.sa (M1 := z_sfi W 909 (n + 32) (R.2 105 0 + 1)) (x := 105) (j := 0) rfl (by decide) (by decide)
        have h67 := h66.trans (q_ste2 eN)
        rw [if_neg (by decide)] at h67
        have h85 := qE_sendsAll_85 0 1 R
        rw [if_neg (by decide), e0] at h85
        replace h85 := h85.trans (q_ste (b := ua R 105 0 (R.2 105 0 + 1)) rfl)
        rw [qE_sendsAll_100] at h85
        obtain ⟨M', r', z1, z2, z3, z4, z5⟩ := ih (P + 1) _ _ (by omega) (show (ua R 105 0 (R.2 105 0 + 1)).1 1606 = nI (P + 1) from hP1) J2 (kI_ua h1 (by decide) (by decide)) (hS.1 _ 105 0 _ (by decide) ph1)
        exact ⟨M', r', z1, z2, z3, (cUl_X1_sendData_46 (eB.trans hC)).trans z4, (qUl_sendsAll_44 (hQ.trans (h67.trans h85))).trans z5⟩
      rcases j_sendLost2 (Ph := Ph) J h hP hP4 (fun sN a m hs ham => hS.2.1 r P sN a m 0 h hP hP4 hs ham ph) 4 0 rfl with ⟨l1, l2⟩ | ⟨W, R, l1, l2, l3, l4, l5, l6⟩
      · rw [jI_0] at hL
        rw [l1] at hL
        replace hN := hN.trans l2
        replace hB := hB.trans (q_ste2 hL)
        rw [if_pos rfl] at hB
        have hW := c_room J
        rw [jI_1] at hW hN
        rcases j_sendNew2 (Ph := Ph) J h hP hP4 (fun sN a m v hs ham hk _ => hS.2.1 _ P sN a m 0 hk (show (ua (uf r 1590 (nI sN)) 67 sN v).1 1606 = nI P by rw [show (ua (uf r 1590 (nI sN)) 67 sN v).1 1606 = r.1 1606 from rfl]; exact hP) hP4 hs ham (hS.2.2 r _ _ _ ph)) 4 1 rfl with ⟨w1, w2⟩ | ⟨W, R, w1, w2, w3, w4, w5, w6⟩
        · rw [w1] at hW
          rw [w2] at hN
          replace hB := hB.trans (q_ste2 hW)
          rw [if_pos rfl] at hB
          have h67 := h66.trans (q_ste2 (show qF_sendsNext 0 r = (0, r) from hN))
          rw [if_pos rfl, q_84] at h67
          exact ⟨M, r, J, h, ph, cUr_X1_sendData_46 hB, q_44n (hQ.trans h67)⟩
        · rw [w5] at hW
          rw [w6] at hN
          replace hB := hB.trans (q_ste2 hW)
          rw [if_neg (by decide)] at hB
          exact go W R w1 w2 w3 w4 hN hB
      · rw [jI_0] at hL
        rw [l5] at hL
        replace hN := hN.trans l6
        replace hB := hB.trans (q_ste2 hL)
        rw [if_neg (by decide)] at hB
        exact go W R l1 l2 l3 l4 hN hB
/-- the client sends data -/
theorem j_sendData {Ph : q_R → Prop} (hS : kSt t s q z Ph) (J : JJ n M r TL CL) (h : kI t s q z r) (ph : Ph r) : JJ n (cF_X1_sendData (n + 31) M) (qF_sendsAll r) TL CL ∧ kI t s q z (qF_sendsAll r) ∧ Ph (qF_sendsAll r) := by
  have e0 : (0 : Int32).toNatClampNeg = 0 := rfl
  have e1 : (1 : Int32).toNatClampNeg = 1 := rfl
  have hB := cE_X1_sendData (n + 31) M
  replace hB := hB.trans (q_ste (b := n + 32) (by rw [s_130_31 J.1]; rfl))
  have J1 := J.sa (M1 := z_sfi M 909 (n + 32) 0) (x := 105) (j := 0) rfl (by decide) (by decide)
  replace hB := hB.trans (q_ste (b := z_sfi M 909 (n + 32) 0) rfl)
  generalize z_sfi M 909 (n + 32) 0 = W at hB J1
  replace hB := hB.trans (q_ste (b := n + 35) (by rw [s_131_31 J1.1]; rfl))
  have J2 := J1.sa (M1 := z_sfi W 909 (n + 35) 0) (x := 105) (j := 1) rfl (by decide) (by decide)
  replace hB := hB.trans (q_ste (b := z_sfi W 909 (n + 35) 0) rfl)
  generalize z_sfi W 909 (n + 35) 0 = V at hB J2
  have h2 : kI t s q z (ua (ua r 105 0 0) 105 1 0) := kI_ua (kI_ua h (by decide) (by decide)) (by decide) (by decide)
  have p2 : Ph (ua (ua r 105 0 0) 105 1 0) := hS.1 _ 105 1 0 (by decide) (hS.1 _ 105 0 0 (by decide) ph)
  have hQ := qE_sendsAll r
  rw [e0, e1] at hQ
  replace hQ := hQ.trans (q_ste (b := ua r 105 0 0) rfl)
  replace hQ := hQ.trans (q_ste (b := ua (ua r 105 0 0) 105 1 0) rfl)
  rw [js_135_31 J2, js_136_31 J2] at hB
  generalize ua (ua r 105 0 0) 105 1 0 = R at hB hQ J2 h2 p2
  have bP := ri_P h2.1
  have nP := jN_toInt bP.1
  have iP := jI_jN bP.1
  have h38 : qF_sendsAll_38 R = qF_sendsAll_44 1 R := by rw [qE_sendsAll_38, qE_sendsAll_43]
  have h42 : qF_sendsAll_42 R = R := by rw [qE_sendsAll_42, qE_sendsAll_43, q_44z]
  have h41 := cE_X1_sendData_41 (n + 31) V
  rw [js_133_31 J2] at h41
  replace h41 := h41.trans (q_ste (b := nI (jN (R.1 1606))) iP)
  obtain ⟨M', r', z1, z2, z3, z4, z5⟩ := j_all46 hS (400 - jN (R.1 1606)) (jN (R.1 1606)) V R (by omega) iP.symm J2 h2 p2
  rw [z4] at h41
  rw [z5] at h38
  by_cases c1 : R.1 1577 = 2
  · rw [if_pos c1] at hB hQ
    rw [hB, hQ, h41, h38]
    exact ⟨z1, z2, z3⟩
  · rw [if_neg c1] at hB hQ
    by_cases c2 : R.1 1577 = 1
    · rw [if_pos c2] at hB hQ
      by_cases c3 : R.1 1578 = -1
      · rw [if_pos c3] at hB hQ
        rw [hB, hQ, h42]
        exact ⟨J2, h2, p2⟩
      · rw [if_neg c3] at hB hQ
        rw [hB, hQ, h41, h38]
        exact ⟨z1, z2, z3⟩
    · rw [if_neg c2] at hB hQ
      rw [hB, hQ, h42]
      exact ⟨J2, h2, p2⟩
end JAL
