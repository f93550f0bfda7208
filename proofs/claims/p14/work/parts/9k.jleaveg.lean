/-! ===== THE LIKENESS: a packet is lost (path 0) ===== -/
section JLG
variable {n : Nat} {M M0 M1 M2 : z_Mem} {r r1 : q_R} {TL CL : List Nat} {t s q z : Nat} {d : Int} {f g : Nat → Int32}
theorem c_leave62 (S : y_S n M) {pk sN a m : Nat} (hs : sN < 4) (h3 : z_fi M 771 pk = nI sN) (h4 : z_fi M 772 pk = nI a) (h5 : z_fi M 773 pk = nI m) : cF_X1_leaveFlight_62 (n + 31) (some pk) M = cF_X9_land (n + (12 + 4 * sN)) (nI a) (nI m) M := by
  rw [cE_X1_leaveFlight_62]
  refine (q_ste (b := pk) rfl).trans ?_
  refine (q_ste (b := n + 11) (by rw [s_129_31 S]; rfl)).trans ?_
  refine (q_ste (b := n + (12 + 4 * sN)) (by rw [h3, jI_N (by omega), s_str S hs]; rfl)).trans ?_
  rw [h4, h5]
  rfl
/-- a packet's bytes -/
theorem ri_by (I : rf_I t s q z r.1 r.2) (i : Nat) : ∃ sN a m : Nat, sN < 4 ∧ a + m ≤ 200 ∧ r.2 73 i = nI sN ∧ r.2 74 i = nI a ∧ r.2 75 i = nI m := by
  have h3 := ri_A I (x := 73) (lo := 0) (hi := 3) (by decide) i
  have h4 := ri_A I (x := 74) (lo := 0) (hi := 200) (by decide) i
  have h5 := ri_A I (x := 75) (lo := 0) (hi := 200) (by decide) i
  have h6 : (r.2 74 i).toInt + (r.2 75 i).toInt ≤ 200 := I.2.2.2.2.1 i
  refine ⟨jN (r.2 73 i), jN (r.2 74 i), jN (r.2 75 i), ?_, ?_, (jI_jN h3.1).symm, (jI_jN h4.1).symm, (jI_jN h5.1).symm⟩
  · have := jN_toInt h3.1; omega
  · have := jN_toInt h4.1; have := jN_toInt h5.1; omega
set_option maxRecDepth 100000 in
theorem c_leaveF (S : y_S n M) {pk sN a m : Nat} {v : Int32} (hs : sN < 4) (h1 : z_fi M 769 pk = 0) (h3 : z_fi M 771 pk = nI sN) (h4 : z_fi M 772 pk = nI a) (h5 : z_fi M 773 pk = nI m) (e1 : M1 = z_sfi (z_sfi M 778 pk v) 899 (n + 32) (z_fi M 899 (n + 32) - 1)) : cF_X1_leaveFlight (n + 31) (some pk) v M = (if v = 1 then cF_X1_leaveFlight_62 (n + 31) (some pk) (cF_X9_acknowledge (n + (12 + 4 * sN)) (nI a) (nI m) M1) else cF_X1_leaveFlight_62 (n + 31) (some pk) M1) := by
  have S1 : y_S n M1 := by rw [e1]; exact S_sfi (S_sfi S)
  have fr : ∀ k b, k ≠ 778 → k ≠ 899 → z_fi M1 k b = z_fi M k b := fun k b c1 c2 => by rw [e1, zq_fi_sfi, if_neg c2, zq_fi_sfi, if_neg c1]
  rw [cE_X1_leaveFlight]
  refine (q_ste (b := pk) rfl).trans ?_
  refine (q_ste (b := z_sfi M 778 pk v) rfl).trans ?_
  refine (q_ste2 (a := some (n + 32)) (b := z_sfi M 778 pk v) ?_).trans ?_
  · have hz : z_fi (z_sfi M 778 pk v) 769 pk = 0 := by rw [zq_fi_sfi, if_neg (by decide)]; exact h1
    have hs0 : z_fr (z_sfi M 778 pk v) 130 (n + 31) = some (n + 32) := s_130_31 (S_sfi S)
    rw [cE_X1_routeOf, hz, if_pos rfl, hs0]
  refine (q_ste (b := n + 32) rfl).trans ?_
  refine (q_ste (b := M1) (by rw [e1, zq_fi_sfi, if_neg (by decide)])).trans ?_
  rw [fr 771 pk (by decide) (by decide), fr 772 pk (by decide) (by decide), fr 773 pk (by decide) (by decide), h3, h4, h5, if_neg (jI_nlt0 (by omega)), if_neg (jI_n4 hs)]
  by_cases c : v = 1
  · rw [if_pos c, if_pos c]
    refine (q_ste (b := n + 11) (by rw [s_129_31 S1]; rfl)).trans ?_
    refine (q_ste (b := n + (12 + 4 * sN)) (by rw [jI_N (by omega), s_str S1 hs]; rfl)).trans ?_
    exact q_ste (b := cF_X9_acknowledge (n + (12 + 4 * sN)) (nI a) (nI m) M1) rfl
  · rw [if_neg c, if_neg c]
theorem q_lands (sN a m : Nat) {i : Nat} {v : Int32} (hi : i < 400) (hs : sN < 4) (ham : a + m ≤ 200) (h3 : r.2 73 i = nI sN) (h4 : r.2 74 i = nI a) (h5 : r.2 75 i = nI m) : qF_lands (nI i) v r = uA (ua r 76 i v) 70 (rO (r.2 70) (200 * sN + a) m (-1)) := by
  have hB := qE_lands (nI i) v r
  rw [jI_N (by omega : i < 2147483648)] at hB
  replace hB := hB.trans (q_ste (b := ua r 76 i v) rfl)
  rw [jI_0, q_lands9 hi hs ham m 0 (ua r 76 i v) (by omega) (by rw [ua_n (by decide)]; exact h5) (by rw [ua_n (by decide)]; exact h4) (by rw [ua_n (by decide)]; exact h3), ua_n (show 70 ≠ 76 by decide), Nat.add_zero] at hB
  exact hB
/-- a packet leaves flight, not acknowledged: its bytes land -/
theorem j_leaveV (J : JJ n M r TL CL) (I : rf_I t s q z r.1 r.2) {i pk : Nat} {v : Int32} (hv0 : ¬ v = 0) (hv1 : ¬ v = 1) (hi : i < jN (r.1 1606)) (e : z_ar M (n + 38) i = some pk) (h71 : r.2 71 i = 0) (h76 : r.2 76 i = 0) (hl : ∀ sN j : Nat, sN < 4 → r.2 73 i = nI sN → (r.2 74 i).toInt ≤ j → (j : Int) < (r.2 74 i).toInt + (r.2 75 i).toInt → ¬ r.2 70 (200 * sN + j) = 0) : JJ n (cF_X1_leaveFlight (n + 31) (some pk) v M) (qF_lands (nI i) v r) TL CL := by
  obtain ⟨sN, a, m, hs, ham, e3, e4, e5⟩ := ri_by I i
  have hb := ri_pk I
  obtain ⟨pk0, a1, a2, a3, a4, a5⟩ := J.pkt hi
  rw [e] at a1
  cases a1
  have h1 : z_fi M 769 pk = 0 := (jp_769 a5).trans h71
  have h3 : z_fi M 771 pk = nI sN := (jp_771 a5).trans e3
  have h4 : z_fi M 772 pk = nI a := (jp_772 a5).trans e4
  have h5 : z_fi M 773 pk = nI m := (jp_773 a5).trans e5
  rw [c_leaveF J.1 hs h1 h3 h4 h5 rfl, if_neg hv1, q_lands sN a m (by omega) hs ham e3 e4 e5]
  have J1 := J.leave hi (by omega) e h71 h76 (v := v) hv0 rfl
  rw [c_leave62 J1.1 hs (by rw [zq_fi_sfi, if_neg (by decide), zq_fi_sfi, if_neg (by decide)]; exact h3) (by rw [zq_fi_sfi, if_neg (by decide), zq_fi_sfi, if_neg (by decide)]; exact h4) (by rw [zq_fi_sfi, if_neg (by decide), zq_fi_sfi, if_neg (by decide)]; exact h5)]
  have J2 := j_landF J1 hs ham (fun j c1 c2 => by
    unfold j_lost
    refine decide_eq_false (fun h => ?_)
    have h' := h.2.2
    rw [ua_n (by decide)] at h'
    refine hl sN j hs e3 ?_ ?_ h'
    · rw [e4, jI_t (by omega)]; omega
    · rw [e4, e5, jI_t (by omega), jI_t (by omega)]; omega)
  rw [ua_n (show 70 ≠ 76 by decide)] at J2
  exact J2
/-- a packet in flight is lost: its bytes land -/
theorem j_leaveL (J : JJ n M r TL CL) (I : rf_I t s q z r.1 r.2) {i pk : Nat} (hi : i < jN (r.1 1606)) (e : z_ar M (n + 38) i = some pk) (h71 : r.2 71 i = 0) (h76 : r.2 76 i = 0) (hl : ∀ sN j : Nat, sN < 4 → r.2 73 i = nI sN → (r.2 74 i).toInt ≤ j → (j : Int) < (r.2 74 i).toInt + (r.2 75 i).toInt → ¬ r.2 70 (200 * sN + j) = 0) : JJ n (cF_X1_leaveFlight (n + 31) (some pk) 2 M) (qF_lands (nI i) 2 r) TL CL := j_leaveV J I (by decide) (by decide) hi e h71 h76 hl
end JLG
