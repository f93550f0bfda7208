/-! ===== THE LIKENESS: a tick (2) ===== -/
section JTJ
variable {n : Nat} {M M0 M1 M2 M3 : z_Mem} {r r1 r2 : q_R} {TL CL : List Nat} {t s q z c w w0 : Nat} {D : Int}
/-- the class's tick -/
noncomputable def cTick (n : Nat) (M : z_Mem) : z_Mem := cF_X5_letLeave (n + 1) (cF_X1_sendData (n + 31) (cF_X1_lookAfter (n + 31) (cF_X8_acknowledgeInTime (n + 28) (cF_X1_hearAll (n + 31) (cF_X8_hearAll (n + 28) (z_sfi M 645 (n + 1) (z_fi M 645 (n + 1) + 1)))))))
/-- the likeness, and all that comes with it -/
def jI (n t c : Nat) (M : z_Mem) (r : q_R) : Prop := JJ n M r (pS ((r.1 1536).toInt + 1) r) (pC ((r.1 1536).toInt + 1) r) ∧ rf_I (t + 60) (t + 60) (t + 60) 0 r.1 r.2 ∧ kP r ∧ nP 0 c 0 r ∧ nA 1 r
theorem j_letLeave (J : JJ n M r (pS ((r.1 1536).toInt + 1) r) (pC ((r.1 1536).toInt + 1) r)) (I : rf_I (t + 60) (s + 60) (q + 60) z r.1 r.2) (K : kP r) (N : nP 1 c 0 r) (A : nA 1 r) (hc : c ≤ 512) : JJ n (cF_X5_letLeave (n + 1) M) (qF_leaves 1 (qF_leaves 0 r)) (pS ((r.1 1536).toInt + 1) (qF_leaves 1 (qF_leaves 0 r))) (pC ((r.1 1536).toInt + 1) (qF_leaves 1 (qF_leaves 0 r))) ∧ rf_I (t + 60) (s + 60) (q + 60) z (qF_leaves 1 (qF_leaves 0 r)).1 (qF_leaves 1 (qF_leaves 0 r)).2 ∧ kP (qF_leaves 1 (qF_leaves 0 r)) ∧ nP 0 c 0 (qF_leaves 1 (qF_leaves 0 r)) ∧ nA 1 (qF_leaves 1 (qF_leaves 0 r)) ∧ (qF_leaves 1 (qF_leaves 0 r)).1 1536 = r.1 1536 := by
  have b54 := ri_F I (g := 1554) (lo := 0) (hi := 1300) (by decide)
  have hb := (nC_b N.2.2.2.2.1 I hc).2.1
  have hB := cE_X5_letLeave (n + 1) M
  rw [s_640_1 J.1] at hB
  have J1 := j_leaveLane (p := 0) J N.2.2.2.2.2.1 (by decide) (Int.le_refl _) b54.1 (by omega)
  have F1 := q_lvFr (r := r) N.2.2.2.2.2.1 (p := 0) (by decide) b54.1 (by omega)
  have I1 := rI_leaves (t := t) (s := s) (q := q) (z := z) J.1 I (x := nI 0) (by decide)
  have K1 := kP_fr F1 (by decide) (by decide) K
  have N1 := nP_lv (D2 := 0) N I (p := 0) (by decide) (by decide) hc (Or.inr ⟨rfl, rfl⟩) (by decide)
  have A1 := nA_fr F1 (by decide) A
  have e0 : (0 : Int32) = nI 0 := rfl
  have e1 : (1 : Int32) = nI 1 := rfl
  rw [e0, e1]
  replace hB := hB.trans (q_ste (b := cF_X5_letLeaveLane (n + 1) (some (n + (2 + 2 * 0))) M) rfl)
  have eC1 : pC ((r.1 1536).toInt + 1) (qF_leaves (nI 0) r) = pC ((r.1 1536).toInt + 1) r := pC_congr (F1.1 1559 (by decide)) (fun _ _ => by rw [F1.2 60 (by decide)])
  rw [← eC1] at J1
  have t1 : (qF_leaves (nI 0) r).1 1536 = r.1 1536 := F1.1 1536 (by decide)
  generalize cF_X5_letLeaveLane (n + 1) (some (n + (2 + 2 * 0))) M = M1 at hB J1
  generalize qF_leaves (nI 0) r = R1 at J1 I1 K1 N1 A1 t1
  rw [← t1] at J1 ⊢
  have b54' := ri_F I1 (g := 1554) (lo := 0) (hi := 1300) (by decide)
  have hb' := (nC_b N1.2.2.2.2.1 I1 hc).2.1
  rw [s_641_1 J1.1] at hB
  have J2 := j_leaveLane (p := 1) J1 N1.2.2.2.2.2.1 (by decide) (Int.le_refl _) b54'.1 (by omega)
  have F2 := q_lvFr (r := R1) N1.2.2.2.2.2.1 (p := 1) (by decide) b54'.1 (by omega)
  have I2 := rI_leaves (t := t) (s := s) (q := q) (z := z) J1.1 I1 (x := nI 1) (by decide)
  have K2 := kP_fr F2 (by decide) (by decide) K1
  have N2 := nP_lv (D2 := 0) N1 I1 (p := 1) (by decide) (by decide) hc (Or.inl rfl) (by decide)
  have A2 := nA_fr F2 (by decide) A1
  replace hB := hB.trans (q_ste rfl)
  have eC2 : pC ((R1.1 1536).toInt + 1) (qF_leaves (nI 1) R1) = pC ((R1.1 1536).toInt + 1) R1 := pC_congr (F2.1 1559 (by decide)) (fun _ _ => by rw [F2.2 60 (by decide)])
  rw [← eC2] at J2
  rw [hB]
  exact ⟨J2, I2, K2, N2, A2, F2.1 1536 (by decide)⟩
theorem j_tick (h : jI n t c M r) (hc : c ≤ 512) (hn : (r.1 1536).toInt < 2000) : jI n t c (cTick n M) (qF_passes r) ∧ (qF_passes r).1 1536 = r.1 1536 + 1 := by
  obtain ⟨J, I, K, N, A⟩ := h
  have bn := ri_now I
  have ev : (r.1 1536 + 1).toInt = (r.1 1536).toInt + 1 := i_addE rfl (show (1 : Int32).toInt = 1 from rfl) (by omega) (by omega)
  -- now
  have e645 := js_645_1 J
  have Jn := J.sf (M1 := z_sfi M 645 (n + 1) (r.1 1536 + 1)) (j := 1536) rfl (by decide)
  have In := rI_now J.1 I hn
  have Nn := nP_now N hn bn.1
  have Kn : kP (uf r 1536 (r.1 1536 + 1)) := kP_uf K (by decide)
  have An : nA 0 (uf r 1536 (r.1 1536 + 1)) := by
    refine ⟨fun e => ?_, A.2.1, A.2.2⟩
    rcases A.1 e with h | h
    · exact Or.inl h
    · refine Or.inr ?_
      show (r.1 1536 + 1 : Int32).toInt + 0 ≤ (r.1 1574).toInt
      omega
  unfold cTick
  rw [e645]
  have hQ := (qE_passes r).trans (q_ste (b := uf r 1536 (r.1 1536 + 1)) rfl)
  have v36 : (uf r 1536 (r.1 1536 + 1)).1 1536 = r.1 1536 + 1 := uf_e
  have eT : pS ((r.1 1536).toInt + 1) r = dl (r.2 56) (r.1 1536 + 1) 0 (jN (r.1 1554)) := by rw [dl_0, ev]; rfl
  have eC : pC ((r.1 1536).toInt + 1) r = pC (r.1 1536 + 1).toInt (uf r 1536 (r.1 1536 + 1)) := by rw [ev]; rfl
  rw [eT, eC] at Jn
  have b54 := ri_F I (g := 1554) (lo := 0) (hi := 1300) (by decide)
  have n54 := jN_toInt b54.1
  generalize hR : uf r 1536 (r.1 1536 + 1) = R at *
  have R54 : R.1 1554 = r.1 1554 := by rw [← hR]; rfl
  have R56 : R.2 56 = r.2 56 := by rw [← hR]; rfl
  generalize hv : r.1 1536 + 1 = v at *
  -- the server
  have hSA : cF_X8_hearAll (n + 28) (z_sfi M 645 (n + 1) v) = cF_X8_hearAll_11 (n + 28) (nI (dl (r.2 56) v 0 (jN (r.1 1554))).length) (z_sfi M 645 (n + 1) v) := by
    have hB := cE_X8_hearAll (n + 28) (z_sfi M 645 (n + 1) v)
    rw [s_1024_28 Jn.1] at hB
    replace hB := hB.trans (q_ste (b := n + 1) rfl)
    rw [s_642_1 Jn.1] at hB
    replace hB := hB.trans (q_ste (b := n + 6) rfl)
    rw [Jn.2.2.2.2.2.2.1.1] at hB
    exact hB.trans (q_ste rfl)
  rw [hSA]
  have c0 : rf_c (fun i => decide (r.2 56 i = v)) 0 = 0 := rfl
  obtain ⟨r2, J2, I2, K2, N2, A2, h36, h56, h54, hQ2⟩ := j_srvAll (δ := 0) (w := if v - v / 20 * 20 = 0 then 1 else 0) (by decide) hc (L := jN (r.1 1554)) (by omega) (jN (r.1 1554)) 0 (z_sfi M 645 (n + 1) v) R (Nat.zero_add _) (by rw [R54]) v36 R56 Jn (by rw [c0, Nat.sub_zero]; exact In) Kn (nP_w Nn (by rw [c0, Nat.sub_zero]; omega)) An
  rw [show (0 : Int32) = nI 0 from rfl, hQ2] at hQ
  -- the client
  have b59 := ri_F I2 (g := 1559) (lo := 0) (hi := 3600) (by decide)
  have n59 := jN_toInt b59.1
  have eC2 : pC v.toInt r2 = dl (r2.2 60) v 0 (jN (r2.1 1559)) := by rw [dl_0]; rfl
  rw [eC2] at J2
  generalize cF_X8_hearAll_11 (n + 28) (nI (dl (r.2 56) v 0 (jN (r.1 1554))).length) (z_sfi M 645 (n + 1) v) = M2 at J2 ⊢
  have hCA : cF_X1_hearAll (n + 31) M2 = cF_X1_hearAll_11 (n + 31) (nI (dl (r2.2 60) v 0 (jN (r2.1 1559))).length) M2 := by
    have hB := cE_X1_hearAll (n + 31) M2
    rw [s_128_31 J2.1] at hB
    replace hB := hB.trans (q_ste (b := n + 1) rfl)
    rw [s_643_1 J2.1] at hB
    replace hB := hB.trans (q_ste (b := n + 8) rfl)
    rw [J2.2.2.2.2.2.2.2.1] at hB
    exact hB.trans (q_ste rfl)
  rw [hCA]
  obtain ⟨r3, J3, K3, N3, A3, g36, g60, g56, g54, g59, hQ3⟩ := j_cliAll (δ := 0) (D := 1) (by decide) (L := jN (r2.1 1559)) (by omega) (jN (r2.1 1559)) 0 M2 r2 (Nat.zero_add _) rfl h36 rfl rfl rfl J2 ⟨I2, K2⟩ N2 A2
  have i59 : r2.1 1559 = nI (jN (r2.1 1559)) := (jI_jN b59.1).symm
  rw [i59, show (0 : Int32) = nI 0 from rfl] at hQ
  rw [hQ3] at hQ
  generalize cF_X1_hearAll_11 (n + 31) (nI (dl (r2.2 60) v 0 (jN (r2.1 1559))).length) M2 = M3 at J3 ⊢
  have eC3 : dl (r2.2 60) v (jN (r2.1 1559)) (jN (r2.1 1559)) = pC ((r3.1 1536).toInt + 1) r3 := by
    rw [(dl_end (Nat.le_refl _)).1]
    unfold pC
    rw [g36, g60, g59]
  have eT3 : dl (r.2 56) v (jN (r.1 1554)) (jN (r.1 1554)) = pS ((r3.1 1536).toInt + 1) r3 := by
    rw [(dl_end (Nat.le_refl _)).1]
    unfold pS
    rw [g36, g56, g54, h56, h54]
  rw [eC3, eT3] at J3
  -- the acknowledgement
  obtain ⟨r4, J4, I4, K4, N4, A4, e36, e54, e56, hQ4⟩ := j_inTime (t := t + 60) (s := t + 60) (q := t + 60) (D := 1) J3 K3.1 K3.2 (by rw [g36]; exact N3) A3 hc (nI (jN (r2.1 1559)))
  rw [hQ4] at hQ
  have eT4 : pS ((r3.1 1536).toInt + 1) r3 = pS ((r3.1 1536).toInt + 1) r4 := (pS_congr e54 (fun _ _ => by rw [e56])).symm
  rw [eT4, ← e36] at J4
  generalize cF_X8_acknowledgeInTime (n + 28) M3 = M4 at J4 ⊢
  have v4 : r4.1 1536 = v := e36.trans g36
  rw [hQ]
  -- the client looks after itself, and sends
  have fin : ∃ r6, JJ n (cF_X1_sendData (n + 31) (cF_X1_lookAfter (n + 31) M4)) r6 (pS ((r6.1 1536).toInt + 1) r6) (pC ((r6.1 1536).toInt + 1) r6) ∧ rf_I (t + 60) (t + 60) (t + 60) 0 r6.1 r6.2 ∧ kP r6 ∧ nP 1 c 0 r6 ∧ nA 1 r6 ∧ r6.1 1536 = v ∧ qF_passes_134 r4 = qF_leaves 1 (qF_leaves 0 r6) := by
    by_cases cs : r4.1 1577 = 0
    · obtain ⟨y1, y2, y3⟩ := j_look0 J4 cs
      have hT : kSt (t + 60) (t + 60) (t + 60) 0 (fun _ => True) := ⟨fun _ _ _ _ _ _ => trivial, fun _ _ _ _ _ _ _ _ _ _ _ _ => trivial, fun _ _ _ _ _ => trivial⟩
      obtain ⟨J6, K6, -⟩ := j_sendData hT J4 ⟨I4, K4⟩ trivial
      rw [y1]
      have F6 : q_fr [] [105] r4 (qF_sendsAll r4) := by rw [y3]; exact q_frua (by decide) (q_frua (by decide) q_fr0)
      have eS : pS ((r4.1 1536).toInt + 1) (qF_sendsAll r4) = pS ((r4.1 1536).toInt + 1) r4 := pS_congr (F6.1 1554 (by decide)) (fun _ _ => by rw [F6.2 56 (by decide)])
      have eC : pC ((r4.1 1536).toInt + 1) (qF_sendsAll r4) = pC ((r4.1 1536).toInt + 1) r4 := pC_congr (F6.1 1559 (by decide)) (fun _ _ => by rw [F6.2 60 (by decide)])
      have e6 : (qF_sendsAll r4).1 1536 = r4.1 1536 := F6.1 1536 (by decide)
      refine ⟨qF_sendsAll r4, by rw [e6, eS, eC]; exact J6, K6.1, K6.2, nP_fr F6 (by decide) (by decide) (by decide) N4, nA_fr F6 (by decide) A4, e6.trans v4, ?_⟩
      rw [y2]; rfl
    · have hK := nB_Lk (v := r4.1 1536) (b := r4.1 1554) (b9 := r4.1 1559) (g := r4.2 56) (g0 := r4.2 60) (nY_Lk (t := t + 60) (s := t + 60) (q := t + 60) (z := 0) (D := 1) (c := c) (w := 0) (by decide))
      obtain ⟨r5, J5, K5, P5, hQ5⟩ := j_look hK J4 ⟨I4, K4⟩ ⟨⟨N4, cs⟩, A4, rfl, rfl, rfl, rfl, rfl⟩
      obtain ⟨J6, K6, P6⟩ := j_sendData hK.1 J5 K5 P5
      obtain ⟨⟨N6, -⟩, A6, k1, k2, k3, k4, k5⟩ := P6
      have eS : pS ((r4.1 1536).toInt + 1) (qF_sendsAll r5) = pS ((r4.1 1536).toInt + 1) r4 := pS_congr k2 (fun _ _ => by rw [k4])
      have eC : pC ((r4.1 1536).toInt + 1) (qF_sendsAll r5) = pC ((r4.1 1536).toInt + 1) r4 := pC_congr k3 (fun _ _ => by rw [k5])
      exact ⟨qF_sendsAll r5, by rw [k1, eS, eC]; exact J6, K6.1, K6.2, N6, A6, k1.trans v4, hQ5⟩
  obtain ⟨r6, J6, I6, K6, N6, A6, v6, hQ6⟩ := fin
  rw [hQ6]
  obtain ⟨x1, x2, x3, x4, x5, x6⟩ := j_letLeave J6 I6 K6 N6 A6 hc
  rw [← x6] at x1
  exact ⟨⟨x1, x2, x3, x4, x5⟩, x6.trans v6⟩
end JTJ
