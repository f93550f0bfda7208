/-! ===== THE LIKENESS: a packet is lost, and harms (path 0) ===== -/
section JLO
variable {n : Nat} {M M0 M1 M2 : z_Mem} {r r1 r2 : q_R} {TL CL : List Nat} {t s q z : Nat} {d : Int} {f g : Nat → Int32}
set_option maxRecDepth 100000 in
theorem j_loses (J : JJ n M r TL CL) (I : rf_I t s q z r.1 r.2) {i pk : Nat} (hi : i < jN (r.1 1606)) (e : z_ar M (n + 38) i = some pk) (h71 : r.2 71 i = 0) (h76 : r.2 76 i = 0) (h86 : r.2 86 0 = 0 ∨ r.2 86 0 = 1 ∨ r.2 86 0 = 2) (hl : ∀ sN j : Nat, sN < 4 → r.2 73 i = nI sN → (r.2 74 i).toInt ≤ j → (j : Int) < (r.2 74 i).toInt + (r.2 75 i).toInt → ¬ r.2 70 (200 * sN + j) = 0) : JJ n (cF_X2_harm (n + 33) (nI i) (nI i) (r.1 1606) (r.1 1536) (z_sfi (cF_X1_leaveFlight (n + 31) (some pk) 2 M) 911 (n + 32) (z_fi (cF_X1_leaveFlight (n + 31) (some pk) 2 M) 911 (n + 32) + 1))) (qF_loses (nI i) r) TL CL := by
  obtain ⟨sN, a, m, hs, ham, e3, e4, e5⟩ := ri_by I i
  have hb := ri_pk I
  have e0 : (0 : Int32).toNatClampNeg = 0 := rfl
  have J1 := j_leaveL J I hi e h71 h76 hl
  have hQ := qE_loses (nI i) r
  rw [q_lands sN a m (by omega) hs ham e3 e4 e5] at hQ J1
  have x1 : (uA (ua r 76 i 2) 70 (rO (r.2 70) (200 * sN + a) m (-1))).1 = r.1 := rfl
  have x71 : (uA (ua r 76 i 2) 70 (rO (r.2 70) (200 * sN + a) m (-1))).2 71 = r.2 71 := by rw [uA_n (by decide), ua_n (by decide)]
  have x86 : (uA (ua r 76 i 2) 70 (rO (r.2 70) (200 * sN + a) m (-1))).2 86 = r.2 86 := by rw [uA_n (by decide), ua_n (by decide)]
  generalize uA (ua r 76 i 2) 70 (rO (r.2 70) (200 * sN + a) m (-1)) = R at hQ J1 x1 x71 x86
  generalize cF_X1_leaveFlight (n + 31) (some pk) 2 M = W at J1 ⊢
  rw [jI_N (by omega : i < 2147483648), e0] at hQ
  replace hQ := hQ.trans (q_ste (b := R) rfl)
  replace hQ := hQ.trans (q_ste (b := ua R 106 0 (R.2 106 0 + 1)) rfl)
  rw [ua_n (show 71 ≠ 106 by decide), x71, h71] at hQ
  replace hQ := hQ.trans (q_ste rfl)
  refine JJ.cr hQ ?_
  have J2 : JJ n (z_sfi W 911 (n + 32) (z_fi W 911 (n + 32) + 1)) (ua R 106 0 (R.2 106 0 + 1)) TL CL := (J1.fc rfl (by decide)).ra (by decide)
  have H := j_harm J2 (num := nI i) (p3 := 1) (by rw [ua_n (by decide), x86]; exact h86)
  rw [if_neg (by decide)] at H
  have y1 : (ua R 106 0 (R.2 106 0 + 1)).1 = r.1 := x1
  rw [y1] at H
  exact H
end JLO
