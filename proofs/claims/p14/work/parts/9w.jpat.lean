/-! ===== THE LIKENESS: a packet by its number ===== -/
section JPT
variable {n : Nat} {M M0 M1 M2 : z_Mem} {r r1 r2 : q_R} {TL CL : List Nat} {t s q z : Nat} {d : Int} {f g : Nat → Int32}
theorem j_patS (J : JJ n M r TL CL) (I : rf_I t s q z r.1 r.2) {i : Nat} (hi : i < jN (r.1 1606)) : cF_X1_packetAt (n + 31) (nI i) M = (z_ar M (n + 38) i, M) := by
  have hb := ri_pk I
  have h0 := ri_F I (g := 1606) (lo := 0) (hi := 400) (by decide)
  have h2 := jN_toInt h0.1
  have hB := cE_X1_packetAt (n + 31) (nI i) M
  rw [js_133_31 J, if_neg (jI_nlt0 (by omega)), if_neg (fun c => by have := i_le c rfl (jI_t (by omega)); omega), if_neg (fun c => by have := i_le c (show (400 : Int32).toInt = 400 from rfl) (jI_t (by omega)); omega)] at hB
  replace hB := hB.trans (q_ste (b := n + 38) (by rw [s_132_31 J.1]; rfl))
  rw [jI_N (by omega : i < 2147483648)] at hB
  exact hB
theorem j_patN (J : JJ n M r TL CL) (I : rf_I t s q z r.1 r.2) {i : Nat} (hi : jN (r.1 1606) ≤ i) (hi2 : i < 1000000) : cF_X1_packetAt (n + 31) (nI i) M = (none, M) := by
  have h0 := ri_F I (g := 1606) (lo := 0) (hi := 400) (by decide)
  have h2 := jN_toInt h0.1
  have hB := cE_X1_packetAt (n + 31) (nI i) M
  rw [js_133_31 J, if_neg (jI_nlt0 (by omega)), if_pos (by rw [Int32.le_iff_toInt_le, jI_t (by omega)]; omega)] at hB
  exact hB
end JPT
