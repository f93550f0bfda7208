/-! ===== THE LIKENESS: a packet in flight is acknowledged, whole (path 0) ===== -/
section JAP
variable {n : Nat} {M M0 M1 M2 : z_Mem} {r r1 r2 : q_R} {TL CL : List Nat} {t s q z : Nat} {d : Int} {f g : Nat → Int32}
set_option maxRecDepth 100000 in
theorem j_ackP0 (J : JJ n M r TL CL) (I : rf_I t s q z r.1 r.2) {i pk : Nat} (hi : i < jN (r.1 1606)) (e : z_ar M (n + 38) i = some pk) (h71 : r.2 71 i = 0) (h76 : r.2 76 i = 0) (h01 : ∀ i, r.2 69 i = 0 ∨ r.2 69 i = 1) (h86 : r.2 86 0 = 0 ∨ r.2 86 0 = 1 ∨ r.2 86 0 = 2) (hc : r.2 86 0 = 1 → r.2 85 0 ≤ r.2 84 0 → ¬ r.2 100 0 = 0) (h103 : 0 ≤ (r.2 103 0).toInt) (h103b : (r.2 103 0).toInt ≤ 400000000) : JJ n (cF_X1_acknowledge (n + 31) (some pk) M) (qF_hearsOf (nI i) r) TL CL := by
  obtain ⟨sN, a, m, hs, ham, e3, e4, e5⟩ := ri_by I i
  have hb := ri_pk I
  have h99 := ri_A I (x := 99) (lo := 0) (hi := 400) (by decide) 0
  have h84 : 32 ≤ (r.2 84 0).toInt := (I.2.2.2.2.2.1 0 (by decide)).1
  obtain ⟨pk0, a1, a2, a3, a4, a5⟩ := J.pkt hi
  rw [e] at a1
  cases a1
  rw [q_hearsA (by omega) hs ham e3 e4 e5 h71 h76 h103 h103b]
  obtain ⟨J36, F36, A36⟩ := j_leaveA J I hs ham e3 e4 e5 hi e h71 h76 h01
  have qn : ∀ k, k ≠ 69 → k ≠ 70 → k ≠ 76 → (qF_lands (nI i) 1 (uA r 69 (rS (r.2 69) (200 * sN + a) m 1))).2 k = r.2 k := fun k c1 c2 c3 => by
    rw [q_lands sN a m (by omega) hs ham (by rw [uA_n (by decide)]; exact e3) (by rw [uA_n (by decide)]; exact e4) (by rw [uA_n (by decide)]; exact e5), uA_n c2, ua_n c3, uA_n c1]
  have hB := cE_X1_acknowledge (n + 31) (some pk) M
  replace hB := hB.trans (q_ops rfl)
  have hr : cF_X1_routeOf (n + 31) (z_fi M 769 pk) M = (some (n + 32), M) := by
    rw [cE_X1_routeOf, (jp_769 a5).trans h71, if_pos rfl, s_130_31 J.1]
  replace hB := hB.trans (q_ste2 hr)
  rw [if_pos ((jp_778 a5).trans h76)] at hB
  generalize qF_lands (nI i) 1 (uA r 69 (rS (r.2 69) (200 * sN + a) m 1)) = R at J36 qn ⊢
  generalize cF_X1_leaveFlight (n + 31) (some pk) 1 M = W at J36 F36 A36 hB
  replace hB := hB.trans (q_ste (b := W) rfl)
  replace hB := hB.trans (q_ste (b := n + 32) rfl)
  rw [js_907_32 J36] at hB
  replace hB := hB.trans (q_ste (b := z_sfi W 907 (n + 32) (R.2 97 0 + 1)) rfl)
  have J39 : JJ n (z_sfi W 907 (n + 32) (R.2 97 0 + 1)) (ua R 97 0 (R.2 97 0 + 1)) TL CL := J36.sa (x := 97) (j := 0) rfl (by decide) (by decide)
  have pf : ∀ k, k < 1000 → k ≠ 778 → k ≠ 899 → k ≠ 907 → z_fi (z_sfi W 907 (n + 32) (R.2 97 0 + 1)) k pk = z_fi M k pk := fun k c0 c1 c2 c3 => by rw [zq_fi_sfi, if_neg c3]; exact F36 k pk c0 c1 c2
  generalize z_sfi W 907 (n + 32) (R.2 97 0 + 1) = V at hB J39 pf
  have v907 : z_fi V 907 (n + 32) = R.2 97 0 + 1 := (js_907_32 J39).trans ua_e
  have p781 : z_fi V 781 pk = R.2 83 i := by rw [pf 781 (by decide) (by decide) (by decide) (by decide), jp_781 a5, qn 83 (by decide) (by decide) (by decide)]
  have p770 : z_fi V 770 pk = R.2 72 i := by rw [pf 770 (by decide) (by decide) (by decide) (by decide), jp_770 a5, qn 72 (by decide) (by decide) (by decide)]
  have p780 : z_fi V 780 pk = r.2 82 i := by rw [pf 780 (by decide) (by decide) (by decide) (by decide), jp_780 a5]
  have v902 : z_fi V 902 (n + 32) = R.2 89 0 := (js_902_32 J39).trans (by rw [ua_n (by decide)])
  have v645 : z_fi V 645 (n + 1) = R.1 1536 := J39.2.1.at 0 rfl
  rw [v907, p781] at hB
  replace hB := hB.trans (q_ste (b := R.2 97 0 + 1 - R.2 83 i) rfl)
  replace hB := hB.trans (q_ste (b := n + 1) (by rw [s_128_31 J39.1]; rfl))
  replace hB := hB.trans (q_ste (b := n + 1) (by rw [s_128_31 J39.1]; rfl))
  replace hB := hB.trans (q_ste (b := n + 33) (by rw [s_897_32 J39.1]; rfl))
  rw [v645, p770, v902] at hB
  have k86 : R.2 86 = r.2 86 := qn 86 (by decide) (by decide) (by decide)
  have k84 : R.2 84 = r.2 84 := qn 84 (by decide) (by decide) (by decide)
  have k85 : R.2 85 = r.2 85 := qn 85 (by decide) (by decide) (by decide)
  have k99 : R.2 99 = r.2 99 := qn 99 (by decide) (by decide) (by decide)
  have k100 : R.2 100 = r.2 100 := qn 100 (by decide) (by decide) (by decide)
  have k103 : R.2 103 = r.2 103 := qn 103 (by decide) (by decide) (by decide)
  have k71 : R.2 71 = r.2 71 := qn 71 (by decide) (by decide) (by decide)
  have k94 : R.2 94 = r.2 94 := qn 94 (by decide) (by decide) (by decide)
  have u : ∀ k, k ≠ 97 → (ua R 97 0 (R.2 97 0 + 1)).2 k = R.2 k := fun k h => ua_n h
  have CB : jCB n V (ua R 97 0 (R.2 97 0 + 1)) := fun c1 c2 => by
    have c1' := c1
    have c2' := c2
    rw [u 86 (by decide), k86] at c1'
    rw [u 85 (by decide), u 84 (by decide), k85, k84] at c2'
    exact j_cube J39 (by rw [u 100 (by decide), k100]; exact hc c1' c2') (by rw [u 84 (by decide), k84]; omega) (by rw [u 103 (by decide), k103]; exact h103) (by rw [u 103 (by decide), k103]; exact h103b) c1 c2
  have J52 := j_grow J39 (i := i) (by omega) (by rw [k71]; exact h71) (by rw [k86]; exact h86) (by rw [k99]; exact h99.1) (by rw [k99]; omega) (by rw [k84]; omega) CB
  have G := c_growFr J39.1 (p1 := R.1 1536) (p2 := R.2 97 0 + 1 - R.2 83 i) (p3 := R.1 1536 - R.2 72 i) (p4 := R.2 89 0) (fun c1 c2 c3 => by
    have x1 : z_fi V 256 (n + 33) = r.2 86 0 := (js_256_33 J39).trans (by rw [u 86 (by decide), k86])
    rw [x1] at c1 c2
    rw [js_258_33 J39, js_257_33 J39] at c3
    have x2 : r.2 86 0 = 1 := by rcases h86 with h | h | h; exact absurd h c2; exact h; exact absurd h c1
    obtain ⟨v, b1, _⟩ := CB (by rw [u 86 (by decide), k86]; exact x2) c3
    exact ⟨v, b1⟩)
  generalize cF_X2_grow (n + 33) (R.1 1536) (R.2 97 0 + 1 - R.2 83 i) (R.1 1536 - R.2 72 i) (R.2 89 0) V = U at hB J52 G
  replace hB := hB.trans (q_ste (b := U) rfl)
  have o94 : (qF_grows (nI i) R).2 94 0 = r.2 94 0 := by
    have h := q_grows94 (r := R) (i := i) (x := R.2 94 0) (by omega) (by rw [k71]; exact h71) (by rw [k103]; exact h103) (by rw [k103]; exact h103b)
    rw [ua_id rfl] at h
    rw [h, ua_e, k94]
  have v906 : z_fi U 906 (n + 32) = r.2 94 0 := (js_906_32 J52).trans o94
  have w780 : z_fi U 780 pk = r.2 82 i := (G.1 780 pk (by decide) (by decide)).trans p780
  rw [v906, w780] at hB
  replace hB := hB.trans (q_ste rfl)
  refine JJ.cm hB ?_
  exact J52.sa (x := 94) (j := 0) rfl (by decide) (by decide)
end JAP
