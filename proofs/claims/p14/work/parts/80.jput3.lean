/-! ===== THE LIKENESS: a message is put on a path to the server ===== -/
section JPS
variable {n : Nat} {M M0 M1 M2 : z_Mem} {r r1 : q_R} {TL CL : List Nat} {t s q z : Nat}
theorem rI_a (I : rf_I t s q z r.1 r.2) {x j : Nat} {v : Int32} (hx : rf_oa x = true) : rf_I t s q z (ua r x j v).1 (ua r x j v).2 := by
  obtain ⟨c1, c2, c3, c4, c5, c6, c7, c8, c9, c10, c11, c12⟩ := I
  unfold rf_oa at hx
  rw [Bool.and_eq_true, decide_eq_true_eq, List.all_eq_true] at hx
  have hq : ∀ y, y ∈ ([42, 43, 45, 50, 51, 52, 53, 54, 55, 56, 58, 59, 61, 63, 66, 67, 71, 72, 73, 74, 75, 76, 83, 84, 86, 89, 97, 98, 99, 101, 103] : List Nat) → (ua r x j v).2 y = r.2 y := fun y hy => ua_n (fun e => by have := hx.2 y hy; rw [e] at this; simp at this)
  refine ⟨?_, ?_, ?_, ?_, ?_, ?_, ?_, ?_, ?_, ?_, ?_, ?_⟩
  · exact c1.congr (fun y hy => hq y (by revert hy; revert y; decide))
  · exact c2
  · exact c3.congr (fun y hy => hq y (by revert hy; revert y; decide))
  · exact c4.congr (fun y hy => hq y (by revert hy; revert y; decide)) (fun _ _ => rfl)
  · exact c5.congr (fun y hy => hq y (by revert hy; revert y; decide))
  · exact c6.congr (fun y hy => hq y (by revert hy; revert y; decide)) (fun _ _ => rfl)
  · exact c7.congr (fun y hy => hq y (by revert hy; revert y; decide))
  · exact c8.congr (fun y hy => hq y (by revert hy; revert y; decide)) (fun _ _ => rfl)
  · exact c9
  · exact c10.congr (fun y hy => hq y (by revert hy; revert y; decide))
  · exact c11.congr (fun y hy => hq y (by revert hy; revert y; decide)) (fun _ _ => rfl)
  · exact c12.congr (fun y hy => hq y (by revert hy; revert y; decide)) (fun _ _ => rfl)
theorem rI_f (I : rf_I t s q z r.1 r.2) {g : Nat} {v : Int32} (hx : rf_of g = true) : rf_I t s q z (uf r g v).1 (uf r g v).2 := by
  obtain ⟨c1, c2, c3, c4, c5, c6, c7, c8, c9, c10, c11, c12⟩ := I
  unfold rf_of at hx
  rw [Bool.and_eq_true, decide_eq_true_eq, List.all_eq_true] at hx
  have hq : ∀ y, y ∈ ([1536, 1551, 1554, 1559, 1561, 1563, 1575, 1576, 1577, 1578, 1579, 1580, 1581, 1585, 1590, 1606, 1630] : List Nat) → (uf r g v).1 y = r.1 y := fun y hy => uf_n (fun e => by have := hx.2 y hy; rw [e] at this; simp at this)
  refine ⟨c1, ?_, c3, ?_, c5, ?_, c7, ?_, ?_, c10, ?_, ?_⟩
  · exact c2.congr (fun y hy => hq y (by revert hy; revert y; decide))
  · exact c4.congr (fun _ _ => rfl) (fun y hy => hq y (by revert hy; revert y; decide))
  · exact c6.congr (fun _ _ => rfl) (fun y hy => hq y (by revert hy; revert y; decide))
  · exact c8.congr (fun _ _ => rfl) (fun y hy => hq y (by revert hy; revert y; decide))
  · exact c9.congr (fun y hy => hq y (by revert hy; revert y; decide))
  · exact c11.congr (fun _ _ => rfl) (fun y hy => hq y (by revert hy; revert y; decide))
  · exact c12.congr (fun _ _ => rfl) (fun y hy => hq y (by revert hy; revert y; decide))
theorem ua_id {x j : Nat} {v : Int32} (h : r.2 x j = v) : ua r x j v = r := by
  refine Prod.ext rfl (funext fun y => funext fun i => ?_)
  rw [ua2]
  by_cases h1 : y = x
  · rw [if_pos h1]
    by_cases h2 : i = j
    · rw [if_pos h2, h1, h2, h]
    · rw [if_neg h2]
  · rw [if_neg h1]
theorem hM_pk {g a : Nat} {v : Int32} (h : 768 ≤ g) : hM n M (z_sfi M g a v) := ⟨Nat.le_refl _, fun b _ _ => ⟨fun k hk => by rw [zq_fi_sfi, if_neg (by omega)], fun _ => rfl, fun _ => rfl⟩⟩
theorem j_qb.congr {m : Nat} (h : j_qb n M r m) (h51 : r1.2 51 = r.2 51) (hz : ∀ a, a < n + 108 → z_ar M1 a = z_ar M a) (hf : ∀ a, z_fi M1 394 a = z_fi M 394 a) : j_qb n M1 r1 m := fun p k q hp hk e => by
  rw [h51] at hk
  rw [hz _ (by omega), hf] at e
  exact h p k q hp hk e
theorem j_puts60 (J : JJ n M r TL CL) (I : rf_I (t + 1) s q z r.1 r.2) {p : Nat} (hp : p < 2) {m : Nat} (m0 : n + 108 ≤ m) (m1 : m < z_sz M) {sI i : Int32} (hk : j_kS n M r m sI i) (h5 : z_fi M 513 m = nI p) (h4 : z_fi M 514 m = 0) (hb : j_qb n M r m) {x : Int32} (hx : x = 0 ∨ (x = 1 ∧ (r.2 51 p).toInt < 30)) (hd : sI = 2 → r.2 81 (jN i) = 0) {y : Int32} (hy : (x = 0 → y = 1) ∧ (x = 1 → y = 0)) : JJ n (q_op (z_fr M 515 m) (if x = 0 then M else (q_st (cF_X3_append (n + (2 + 2 * p)) (some m) M) (fun (M_22 : z_Mem) => M_22))) (fun _ => (if x = 0 then (cF_X5_putToServer_48 (n + 1) (some m) (some (n + (2 + 2 * p))) x (z_fr M 515 m) M) else (if ((z_fi M 395 (n + (2 + 2 * p))) < (z_fi M 387 (n + (2 + 2 * p)))) then (cF_X5_putToServer_48 (n + 1) (some m) (some (n + (2 + 2 * p))) x (z_fr M 515 m) M) else (cF_X5_putToServer_49 (n + 1) (some m) (some (n + (2 + 2 * p))) x (z_fr M 515 m) 1 M))))) (qF_puts_60 (nI p) sI i y r) TL CL := by
  have L := j_lane J hp
  have ep : (nI p).toNatClampNeg = p := jN_nI (by omega)
  have hpk := ri_pk I
  by_cases hs : sI = 2
  · subst hs
    rcases hk with h | ⟨-, k1, k2, k3⟩ | h | h
    · exact absurd h.1 (by decide)
    · obtain ⟨pk, g1, g2, g3, g4, g5⟩ := J.pkt k2
      have kd : z_fr M 515 m = some pk := k3.trans g1
      rw [q_ops kd]
      have Jb : ∀ b : Int32, JJ n (z_sfi M 777 pk b) (ua r 81 (jN i) b) TL CL := fun b => J.pk k2 (by omega) g1 (by decide)
      have kd2 : ∀ b : Int32, z_fr (z_sfi M 777 pk b) 515 m = some pk := fun b => kd
      have F49 : ∀ b : Int32, x = 1 → JJ n (cF_X5_putToServer_49 (n + 1) (some m) (some (n + (2 + 2 * p))) x (z_fr M 515 m) b M) (qF_puts_111 (nI p) 2 i (ua r 81 (jN i) b)) TL CL := fun b h1 => by
        rw [cE_X5_putToServer_49, kd]
        have hx0 : ¬ x = 0 := by rw [h1]; decide
        refine JJ.st (fun a1 e1 => ?_)
        have e1 : a1 = pk := e1
        subst e1
        refine JJ.st (fun M2 e2 => ?_)
        rw [if_neg hx0, if_neg hx0]
        refine JJ.st (fun a6 e6 => ?_)
        have e6 : a6 = n + (2 + 2 * p) := e6
        subst e6
        refine JJ.st (fun M5 e5 => ?_)
        rw [e5, e2]
        have hq : (r.2 51 p).toInt < 30 := by
          rcases hx with h | h
          · exact absurd h hx0
          · exact h.2
        exact j_appF (Jb b) (rI_a I (by decide)) hp m0 m1 ((show j_kS n M (ua r 81 (jN i) b) m 2 i from Or.inr (Or.inl ⟨rfl, k1, k2, k3⟩)).congr m0 m1 (hM_pk (by decide)) rfl rfl) (by rw [zq_fi_sfi, if_neg (by decide)]; exact h5) (by rw [zq_fi_sfi, if_neg (by decide)]; exact h4) (hb.congr (ua_n (by decide)) (fun _ _ => rfl) (fun _ => by rw [zq_fi_sfi, if_neg (by decide)])) (by rw [ua_n (by decide)]; exact hq)
      rcases hx with h0 | ⟨h1, hq⟩
      · rw [if_pos h0, cE_X5_putToServer_48, cE_X5_putToServer_49, kd]
        refine JJ.st (fun a1 e1 => ?_)
        have e1 : a1 = pk := e1
        subst e1
        refine JJ.st (fun M2 e2 => ?_)
        rw [if_pos h0]
        refine JJ.st (fun a7 e7 => ?_)
        have e7 : a7 = m := e7
        subst e7
        rw [e2, kd2]
        refine JJ.st (fun a9 e9 => ?_)
        have e9 : a9 = a1 := e9
        subst e9
        refine JJ.st (fun M10 e10 => ?_)
        rw [if_pos h0, qE_puts_60, hy.1 h0, if_neg (by decide), if_pos rfl, e10]
        refine JJ.cr (q_ste (b := ua r 77 (jN i) 3) rfl) ?_
        have := Jb 0
        rw [ua_id (hd rfl)] at this
        exact this.ff.ra (by decide)
      · have hx0 : ¬ x = 0 := by rw [h1]; decide
        rw [if_neg hx0, qE_puts_60, hy.2 h1, if_pos rfl, if_pos rfl, ep, L.2.2.2.2.2.2.2.2.1, L.2.2.2.1]
        by_cases hm : r.2 51 p < r.2 44 p
        · rw [if_pos hm, if_pos hm, cE_X5_putToServer_48]
          exact F49 0 h1
        · rw [if_neg hm, if_neg hm]
          exact F49 1 h1
    · exact absurd h.1 (by decide)
    · exact absurd h.1 (by decide)
  · have kd : z_fr M 515 m = none := by
      rcases hk with h | h | h | h
      · exact h.2.2.1
      · exact absurd h.1 hs
      · exact h.2.2
      · exact h.2.2
    rw [q_opn kd, qE_puts_60]
    rcases hx with h0 | ⟨h1, hq⟩
    · rw [if_pos h0, hy.1 h0, if_neg (by decide), if_neg hs]; exact J
    · have hx0 : ¬ x = 0 := by rw [h1]; decide
      rw [if_neg hx0, hy.2 h1, if_pos rfl, if_neg hs]
      refine JJ.st (fun M22 e22 => ?_)
      rw [e22]
      exact j_appF J I hp m0 m1 hk h5 h4 hb hq
theorem j_puts (J0 : JJ n M0 r TL CL) (E : jE n M0 M) (I : rf_I (t + 1) s q z r.1 r.2) {p : Nat} (hp : p < 2) {m : Nat} (m0 : z_sz M0 ≤ m) (m1 : m < z_sz M) {sI i : Int32} (kd : j_kS n M r m sI i) (h4 : z_fi M 514 m = 0) (hd : sI = 2 → r.2 81 (jN i) = 0) : JJ n (cF_X5_putToServer (n + 1) (nI p) (some m) M) (qF_puts (nI p) sI i r) TL CL := by
  have hz := J0.1.2.2.2
  have ep : (nI p).toNatClampNeg = p := jN_nI (by omega)
  rw [cE_X5_putToServer]
  refine JJ.st2 (j_laneOf E.2.1 hp) ?_
  refine JJ.st (fun a15 e15 => ?_)
  have e15 : a15 = m := e15
  subst e15
  refine JJ.st (fun M16 e16 => ?_)
  refine JJ.st (fun a18 e18 => ?_)
  have e18 : a18 = n + (2 + 2 * p) := e18
  subst e18
  have E16 := jE_sfi E J0.1 m0 e16
  have J16 := J0.ext E16
  have L := j_lane J16 hp
  have k16 : j_kS n M16 r a15 sI i := by
    rw [e16]; unfold j_kS
    rw [zq_fi_sfi, if_neg (by decide), zq_fi_sfi, if_neg (by decide), zq_fi_sfi, if_neg (by decide)]; exact kd
  have h516 : z_fi M16 513 a15 = nI p := by rw [e16, zq_fi_sfi, if_pos rfl, if_pos rfl]
  have h416 : z_fi M16 514 a15 = 0 := by rw [e16, zq_fi_sfi, if_neg (by decide)]; exact h4
  have s16 : z_sz M16 = z_sz M := by rw [e16]; rfl
  have hb16 : j_qb n M16 r a15 := by
    have : j_qb n M0 r a15 := fun p k q hp hk e => Nat.lt_of_lt_of_le (J0.qb p k q hp hk e) m0
    intro p1 k q hp1 hk e
    rw [E16.2.2.2.2 _ (by omega), E16.2.2.1 _ _ (by omega)] at e
    exact this p1 k q hp1 hk e
  have I43 := ri_A I (x := 43) (lo := 0) (hi := 30) (by decide) p
  clear e16 E16 kd
  rw [qE_puts]
  refine JJ.cr (q_ste (b := r.2 45 p) (by rw [ep])) ?_
  rw [ep, cE_X3_letsToServer]
  by_cases hD : r.2 45 p = 0
  · have hU : ¬ z_fi M16 388 (n + (2 + 2 * p)) = 0 := fun h => (L.2.2.2.2.2.2.2.2.2.mp h) hD
    rw [if_neg hU, if_pos hD, L.2.2.2.2.1]
    by_cases hL : r.2 46 p ≤ 0
    · rw [if_pos hL, if_pos hL, qE_puts_35, if_pos hD, ep, cE_X3_hasRoom, L.2.2.1, L.2.2.2.2.2.2.2.2.1]
      by_cases hR : r.2 51 p < r.2 43 p
      · have hR' := i_lt hR rfl rfl
        have n1 : ¬ r.2 43 p ≤ r.2 51 p := fun h => absurd (i_le h rfl rfl) (by omega)
        have n2 : ¬ (30 : Int32) ≤ r.2 51 p := fun h => absurd (i_le h (show (30 : Int32).toInt = 30 from rfl) rfl) (by omega)
        rw [if_neg n1, if_neg n2, if_pos hR]
        exact JJ.st2 (x := 1) (M := M16) rfl (j_puts60 J16 I hp (by omega) (by omega) k16 h516 h416 hb16 (Or.inr ⟨rfl, by omega⟩) hd ⟨fun h => absurd h (by decide), fun _ => rfl⟩)
      · have n1 : r.2 43 p ≤ r.2 51 p := by
          have := i_nlt hR rfl rfl
          rw [Int32.le_iff_toInt_le]; omega
        rw [if_pos n1, if_neg hR, qE_puts_55]
        exact JJ.st2 (x := 0) (M := M16) rfl (j_puts60 J16 I hp (by omega) (by omega) k16 h516 h416 hb16 (Or.inl rfl) hd ⟨fun _ => rfl, fun h => absurd h (by decide)⟩)
    · rw [if_neg hL, if_neg hL]
      have J17 := j_lsa J16 hp (g := 389) (x := 46) (v := r.2 46 p - 1) (by decide) (by decide) (by decide)
      refine JJ.cr (q_ste (b := ua r 46 p (r.2 46 p - 1)) rfl) ?_
      rw [qE_puts_35, if_neg (by decide), qE_puts_55]
      exact JJ.st2 (x := 0) (M := z_sfi M16 389 (n + (2 + 2 * p)) (r.2 46 p - 1)) rfl (j_puts60 J17 (rI_a I (by decide)) hp (by omega) (by show a15 < z_sz M16; omega) (k16.congr (by omega) (by omega) (hF_sfi (by omega)).m rfl rfl) (by rw [zq_fi_sfi, if_neg (by decide)]; exact h516) (by rw [zq_fi_sfi, if_neg (by decide)]; exact h416) (hb16.congr (ua_n (by decide)) (fun _ _ => rfl) (fun _ => by rw [zq_fi_sfi, if_neg (by decide)])) (Or.inl rfl) (fun h => by rw [ua_n (by decide)]; exact hd h) ⟨fun _ => rfl, fun h => absurd h (by decide)⟩)
  · have hU : z_fi M16 388 (n + (2 + 2 * p)) = 0 := L.2.2.2.2.2.2.2.2.2.mpr hD
    rw [if_pos hU, if_neg hD, qE_puts_35, if_neg hD, qE_puts_55]
    exact JJ.st2 (x := 0) (M := M16) rfl (j_puts60 J16 I hp (by omega) (by omega) k16 h516 h416 hb16 (Or.inl rfl) hd ⟨fun _ => rfl, fun h => absurd h (by decide)⟩)
end JPS
