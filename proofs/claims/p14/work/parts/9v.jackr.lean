/-! ===== THE LIKENESS: a packet is acknowledged, whatever is known of it (path 0) ===== -/
section JAR
variable {n : Nat} {M M0 M1 M2 : z_Mem} {r r1 r2 : q_R} {TL CL : List Nat} {t s q z : Nat} {d : Int} {f g : Nat → Int32}
theorem j_ackP (J : JJ n M r TL CL) (I : rf_I t s q z r.1 r.2) {i pk : Nat} (hi : i < jN (r.1 1606)) (e : z_ar M (n + 38) i = some pk) (h71 : r.2 71 i = 0) (h01 : ∀ i, r.2 69 i = 0 ∨ r.2 69 i = 1) (h86 : r.2 86 0 = 0 ∨ r.2 86 0 = 1 ∨ r.2 86 0 = 2) (hc : r.2 86 0 = 1 → r.2 85 0 ≤ r.2 84 0 → ¬ r.2 100 0 = 0) (h103 : 0 ≤ (r.2 103 0).toInt) (h103b : (r.2 103 0).toInt ≤ 400000000) (hg : r.2 76 i = 2 → ¬ r.2 94 0 < r.2 82 i) (hh : r.2 102 0 = nI i → ¬ r.2 100 0 = 0) : JJ n (cF_X1_acknowledge (n + 31) (some pk) M) (qF_hearsOf (nI i) r) TL CL := by
  have hb := ri_pk I
  by_cases c0 : r.2 76 i = 0
  · exact j_ackP0 J I hi e h71 c0 h01 h86 hc h103 h103b
  · by_cases c2 : r.2 76 i = 2
    · exact j_ackP2 J I hi e h71 c2 h01 (hg c2) hh
    · obtain ⟨pk0, a1, a2, a3, a4, a5⟩ := J.pkt hi
      rw [e] at a1
      cases a1
      have hQ := qE_hearsOf (nI i) r
      rw [jI_N (by omega : i < 2147483648)] at hQ
      replace hQ := hQ.trans (q_ste rfl)
      rw [if_neg c0, if_neg c2] at hQ
      refine JJ.cr hQ ?_
      have hB := cE_X1_acknowledge (n + 31) (some pk) M
      replace hB := hB.trans (q_ops rfl)
      have hr : cF_X1_routeOf (n + 31) (z_fi M 769 pk) M = (some (n + 32), M) := by
        rw [cE_X1_routeOf, (jp_769 a5).trans h71, if_pos rfl, s_130_31 J.1]
      replace hB := hB.trans (q_ste2 hr)
      have h778 : z_fi M 778 pk = r.2 76 i := jp_778 a5
      rw [h778, if_neg c0, if_neg c2] at hB
      exact JJ.cm hB J
end JAR
