/-! ===== THE FRESH MEMORY ===== -/
/-- three tables that nobody wrote, and rows of ints that are 0 -/
def y_Zq (C : z_Mem) : Prop := (∀ k, z_fi C 771 k = 0) ∧ (∀ k, z_fi C 3 k = 0) ∧ (∀ k, z_fr C 516 k = none)
def y_Z0 (C : z_Mem) : Prop := ∀ x j, z_ai C x j = 0
def y_Zr (C : z_Mem) : Prop := ∀ r, r ∈ rf_RA → ∀ j, r.2.1 ≤ (z_ai C r.1 j).toInt ∧ (z_ai C r.1 j).toInt ≤ r.2.2
section ZQ
variable {C : z_Mem}
theorem zq0 : y_Zq (z_M0 0) := ⟨fun _ => rfl, fun _ => rfl, fun _ => rfl⟩
theorem zq_a {a j : Nat} {v : Int32} (h : y_Zq C) : y_Zq (z_sai C a j v) := h
theorem zq_b {a j : Nat} {v : Option Nat} (h : y_Zq C) : y_Zq (z_sar C a j v) := h
theorem zq_c {k w : Nat} (h : y_Zq C) : y_Zq (z_nwa C k w) := h
theorem zq_d {g a : Nat} {v : Int32} (hg : g ≠ 771 ∧ g ≠ 3) (h : y_Zq C) : y_Zq (z_sfi C g a v) := ⟨fun k => by rw [zq_fi_sfi, if_neg (Ne.symm hg.1)]; exact h.1 k, fun k => by rw [zq_fi_sfi, if_neg (Ne.symm hg.2)]; exact h.2.1 k, h.2.2⟩
theorem zq_e {g a : Nat} {v : Option Nat} (hg : g ≠ 516) (h : y_Zq C) : y_Zq (z_sfr C g a v) := ⟨h.1, h.2.1, fun k => by rw [zq_fr_sfr, if_neg (Ne.symm hg)]; exact h.2.2 k⟩
theorem zq_f {k w : Nat} (h : y_Zq C) : y_Zq (z_new C k w) := ⟨fun x => by
    rw [zq_fi_new]
    split
    · rfl
    · exact h.1 x, fun x => by
    rw [zq_fi_new]
    split
    · rfl
    · exact h.2.1 x, fun x => by
    rw [zq_fr_new]
    split
    · rfl
    · exact h.2.2 x⟩
theorem z00 : y_Z0 (z_M0 0) := fun _ _ => rfl
theorem z0_b {a j : Nat} {v : Option Nat} (h : y_Z0 C) : y_Z0 (z_sar C a j v) := h
theorem z0_c {k w : Nat} (h : y_Z0 C) : y_Z0 (z_nwa C k w) := fun x j => by
  rw [zq_ai_nwa]
  split
  · rfl
  · exact h x j
theorem z0_d {g a : Nat} {v : Int32} (h : y_Z0 C) : y_Z0 (z_sfi C g a v) := h
theorem z0_e {g a : Nat} {v : Option Nat} (h : y_Z0 C) : y_Z0 (z_sfr C g a v) := h
theorem z0_f {k w : Nat} (h : y_Z0 C) : y_Z0 (z_new C k w) := h
theorem zr_0 (h : y_Z0 C) : y_Zr C := fun r hr j => by
  rw [h, show (0 : Int32).toInt = 0 from rfl]
  revert hr; revert r; decide
theorem zr_a {a i : Nat} {v : Int32} (hv : rf_RA.all (fun r => !decide (r.1 = a) || (decide (r.2.1 ≤ v.toInt) && decide (v.toInt ≤ r.2.2))) = true) (h : y_Zr C) : y_Zr (z_sai C a i v) := fun r hr j => by
  rw [zq_ai_sai]
  split
  · rename_i e
    split
    · have g := List.all_eq_true.mp hv r hr
      rw [decide_eq_true e] at g
      simp only [Bool.not_true, Bool.false_or, Bool.and_eq_true, decide_eq_true_eq] at g
      exact g
    · exact h r hr j
  · exact h r hr j
theorem zr_c {k w : Nat} (h : y_Zr C) : y_Zr (z_nwa C k w) := fun r hr j => by
  rw [zq_ai_nwa]
  split
  · rw [show (0 : Int32).toInt = 0 from rfl]
    have g : ∀ r, r ∈ rf_RA → r.2.1 ≤ 0 ∧ 0 ≤ r.2.2 := by decide
    exact g r hr
  · exact h r hr j
theorem zq_iX2 {a s : Nat} (h : y_Zq C) : y_Zq (c_X2_init a s C) := (zq_e (by decide) (zq_c (zq_d (by decide) (zq_d (by decide) (zq_d (by decide) (zq_d (by decide) (zq_d (by decide) (zq_d (by decide) h))))))))
theorem z0_iX2 {a s : Nat} (h : y_Z0 C) : y_Z0 (c_X2_init a s C) := (z0_e (z0_c (z0_d (z0_d (z0_d (z0_d (z0_d (z0_d h))))))))
theorem zq_iX7 {a s : Nat} {p1 : Int32} (h : y_Zq C) : y_Zq (c_X7_init a s p1 C) := (zq_d (by decide) (zq_d (by decide) (zq_d (by decide) (zq_d (by decide) (zq_d (by decide) (zq_d (by decide) (zq_d (by decide) (zq_e (by decide) (zq_iX2 (zq_f h))))))))))
theorem z0_iX7 {a s : Nat} {p1 : Int32} (h : y_Z0 C) : y_Z0 (c_X7_init a s p1 C) := (z0_d (z0_d (z0_d (z0_d (z0_d (z0_d (z0_d (z0_e (z0_iX2 (z0_f h))))))))))
theorem zq_iX4 {a s : Nat} {p1 : Int32} (h : y_Zq C) : y_Zq (c_X4_init a s p1 C) := (zq_d (by decide) (zq_d (by decide) h))
theorem z0_iX4 {a s : Nat} {p1 : Int32} (h : y_Z0 C) : y_Z0 (c_X4_init a s p1 C) := (z0_d (z0_d h))
theorem zq_iX3 {a s : Nat} (h : y_Zq C) : y_Zq (c_X3_init a s C) := (zq_e (by decide) (zq_c (zq_d (by decide) (zq_d (by decide) (zq_d (by decide) (zq_d (by decide) (zq_d (by decide) h)))))))
theorem z0_iX3 {a s : Nat} (h : y_Z0 C) : y_Z0 (c_X3_init a s C) := (z0_e (z0_c (z0_d (z0_d (z0_d (z0_d (z0_d h)))))))
theorem zq_iX10 {a s w : Nat} (h : y_Zq C) : y_Zq (c_X10_init a s w C) := (zq_e (by decide) (zq_c h))
theorem z0_iX10 {a s w : Nat} (h : y_Z0 C) : y_Z0 (c_X10_init a s w C) := (z0_e (z0_c h))
theorem zq_iX5 {a s : Nat} (h : y_Zq C) : y_Zq (c_X5_init a s C) := (zq_e (by decide) (zq_iX4 (zq_f (zq_e (by decide) (zq_iX10 (zq_f (zq_e (by decide) (zq_iX10 (zq_f (zq_e (by decide) (zq_iX3 (zq_f (zq_e (by decide) (zq_iX3 (zq_f h)))))))))))))))
theorem z0_iX5 {a s : Nat} (h : y_Z0 C) : y_Z0 (c_X5_init a s C) := (z0_e (z0_iX4 (z0_f (z0_e (z0_iX10 (z0_f (z0_e (z0_iX10 (z0_f (z0_e (z0_iX3 (z0_f (z0_e (z0_iX3 (z0_f h)))))))))))))))
theorem zq_iX9 {a s : Nat} (h : y_Zq C) : y_Zq (c_X9_init a s C) := (zq_e (by decide) (zq_c (zq_e (by decide) (zq_c (zq_e (by decide) (zq_c (zq_d (by decide) h)))))))
theorem z0_iX9 {a s : Nat} (h : y_Z0 C) : y_Z0 (c_X9_init a s C) := (z0_e (z0_c (z0_e (z0_c (z0_e (z0_c (z0_d h)))))))
theorem zq_iX8 {a s p1 p2 : Nat} (h : y_Zq C) : y_Zq (c_X8_init a s p1 p2 C) := (zq_e (by decide) (zq_e (by decide) (zq_d (by decide) (zq_d (by decide) (zq_d (by decide) (zq_e (by decide) (zq_c (zq_d (by decide) (zq_e (by decide) (zq_c (zq_d (by decide) h)))))))))))
theorem z0_iX8 {a s p1 p2 : Nat} (h : y_Z0 C) : y_Z0 (c_X8_init a s p1 p2 C) := (z0_e (z0_e (z0_d (z0_d (z0_d (z0_e (z0_c (z0_d (z0_e (z0_c (z0_d h)))))))))))
theorem zq_iX1 {a s p1 p2 : Nat} (h : y_Zq C) : y_Zq (c_X1_init a s p1 p2 C) := (zq_e (by decide) (zq_e (by decide) (zq_d (by decide) (zq_d (by decide) (zq_d (by decide) (zq_d (by decide) (zq_d (by decide) (zq_e (by decide) (zq_c (zq_e (by decide) (zq_iX7 (zq_f (zq_e (by decide) (zq_iX7 (zq_f h)))))))))))))))
theorem z0_iX1 {a s p1 p2 : Nat} (h : y_Z0 C) : y_Z0 (c_X1_init a s p1 p2 C) := (z0_e (z0_e (z0_d (z0_d (z0_d (z0_d (z0_d (z0_e (z0_c (z0_e (z0_iX7 (z0_f (z0_e (z0_iX7 (z0_f h)))))))))))))))
theorem zq_iX12 {a s : Nat} (h : y_Zq C) : y_Zq (c_X12_init a s C) := (zq_e (by decide) (zq_c (zq_e (by decide) (zq_c (zq_e (by decide) (zq_c (zq_e (by decide) (zq_c (zq_e (by decide) (zq_c (zq_e (by decide) (zq_c (zq_e (by decide) (zq_c (zq_e (by decide) (zq_c (zq_e (by decide) (zq_c (zq_e (by decide) (zq_c (zq_e (by decide) (zq_c (zq_e (by decide) (zq_c (zq_e (by decide) (zq_c (zq_e (by decide) (zq_c (zq_e (by decide) (zq_c (zq_e (by decide) (zq_c (zq_e (by decide) (zq_c (zq_e (by decide) (zq_c (zq_e (by decide) (zq_c (zq_e (by decide) (zq_c (zq_e (by decide) (zq_c (zq_e (by decide) (zq_c (zq_e (by decide) (zq_c (zq_e (by decide) (zq_c (zq_e (by decide) (zq_c (zq_e (by decide) (zq_c (zq_e (by decide) (zq_c (zq_e (by decide) (zq_c (zq_e (by decide) (zq_c (zq_e (by decide) (zq_c (zq_e (by decide) (zq_c (zq_e (by decide) (zq_c (zq_e (by decide) (zq_c (zq_e (by decide) (zq_c (zq_e (by decide) (zq_c (zq_e (by decide) (zq_c (zq_e (by decide) (zq_c (zq_e (by decide) (zq_c (zq_d (by decide) (zq_d (by decide) (zq_e (by decide) (zq_c (zq_e (by decide) (zq_c (zq_e (by decide) (zq_c (zq_d (by decide) (zq_d (by decide) (zq_d (by decide) (zq_d (by decide) (zq_e (by decide) (zq_c (zq_e (by decide) (zq_c (zq_e (by decide) (zq_c (zq_d (by decide) (zq_e (by decide) (zq_c (zq_e (by decide) (zq_c (zq_e (by decide) (zq_c (zq_e (by decide) (zq_c (zq_e (by decide) (zq_c (zq_e (by decide) (zq_c (zq_e (by decide) (zq_c (zq_e (by decide) (zq_c (zq_e (by decide) (zq_c (zq_e (by decide) (zq_c (zq_e (by decide) (zq_c (zq_e (by decide) (zq_c (zq_e (by decide) (zq_c (zq_e (by decide) (zq_c (zq_e (by decide) (zq_c (zq_e (by decide) (zq_c (zq_e (by decide) (zq_c (zq_e (by decide) (zq_c (zq_e (by decide) (zq_c (zq_e (by decide) (zq_c (zq_e (by decide) (zq_c (zq_e (by decide) (zq_c h)))))))))))))))))))))))))))))))))))))))))))))))))))))))))))))))))))))))))))))))))))))))))))))))))))))))))))))))))))))))))))))))))))))))))))
theorem z0_iX12 {a s : Nat} (h : y_Z0 C) : y_Z0 (c_X12_init a s C) := (z0_e (z0_c (z0_e (z0_c (z0_e (z0_c (z0_e (z0_c (z0_e (z0_c (z0_e (z0_c (z0_e (z0_c (z0_e (z0_c (z0_e (z0_c (z0_e (z0_c (z0_e (z0_c (z0_e (z0_c (z0_e (z0_c (z0_e (z0_c (z0_e (z0_c (z0_e (z0_c (z0_e (z0_c (z0_e (z0_c (z0_e (z0_c (z0_e (z0_c (z0_e (z0_c (z0_e (z0_c (z0_e (z0_c (z0_e (z0_c (z0_e (z0_c (z0_e (z0_c (z0_e (z0_c (z0_e (z0_c (z0_e (z0_c (z0_e (z0_c (z0_e (z0_c (z0_e (z0_c (z0_e (z0_c (z0_e (z0_c (z0_e (z0_c (z0_e (z0_c (z0_e (z0_c (z0_e (z0_c (z0_d (z0_d (z0_e (z0_c (z0_e (z0_c (z0_e (z0_c (z0_d (z0_d (z0_d (z0_d (z0_e (z0_c (z0_e (z0_c (z0_e (z0_c (z0_d (z0_e (z0_c (z0_e (z0_c (z0_e (z0_c (z0_e (z0_c (z0_e (z0_c (z0_e (z0_c (z0_e (z0_c (z0_e (z0_c (z0_e (z0_c (z0_e (z0_c (z0_e (z0_c (z0_e (z0_c (z0_e (z0_c (z0_e (z0_c (z0_e (z0_c (z0_e (z0_c (z0_e (z0_c (z0_e (z0_c (z0_e (z0_c (z0_e (z0_c (z0_e (z0_c (z0_e (z0_c h)))))))))))))))))))))))))))))))))))))))))))))))))))))))))))))))))))))))))))))))))))))))))))))))))))))))))))))))))))))))))))))))))))))))))))
end ZQ
theorem zqm0 : y_Zq y_m0 := zq0
theorem zqm1 : y_Zq y_m1 := zq_f zqm0
theorem zqm2 : y_Zq y_m2 := zq_f zqm1
theorem zqm3 : y_Zq y_m3 := zq_iX5 zqm2
theorem zqm4 : y_Zq y_m4 := zq_e (by decide) zqm3
theorem zqm5 : y_Zq y_m5 := zq_c zqm4
theorem zqm6 : y_Zq y_m6 := zq_e (by decide) zqm5
theorem zqm7 : y_Zq y_m7 := zq_f zqm6
theorem zqm8 : y_Zq y_m8 := zq_iX9 zqm7
theorem zqm9 : y_Zq y_m9 := zq_b zqm8
theorem zqm10 : y_Zq y_m10 := zq_f zqm9
theorem zqm11 : y_Zq y_m11 := zq_iX9 zqm10
theorem zqm12 : y_Zq y_m12 := zq_b zqm11
theorem zqm13 : y_Zq y_m13 := zq_f zqm12
theorem zqm14 : y_Zq y_m14 := zq_iX9 zqm13
theorem zqm15 : y_Zq y_m15 := zq_b zqm14
theorem zqm16 : y_Zq y_m16 := zq_f zqm15
theorem zqm17 : y_Zq y_m17 := zq_iX9 zqm16
theorem zqm18 : y_Zq y_m18 := zq_b zqm17
theorem zqm19 : y_Zq y_m19 := zq_f zqm18
theorem zqm20 : y_Zq y_m20 := zq_iX8 zqm19
theorem zqm21 : y_Zq y_m21 := zq_e (by decide) zqm20
theorem zqm22 : y_Zq y_m22 := zq_f zqm21
theorem zqm23 : y_Zq y_m23 := zq_iX1 zqm22
theorem zqm24 : y_Zq y_m24 := zq_e (by decide) zqm23
theorem zqm25 : y_Zq y_m25 := zq_c zqm24
theorem zqm26 : y_Zq y_m26 := zq_e (by decide) zqm25
theorem zqm27 : y_Zq y_m27 := zq_f zqm26
theorem zqm28 : y_Zq y_m28 := zq_iX12 zqm27
theorem zqm29 : y_Zq y_m29 := zq_a zqm28
theorem zqm30 : y_Zq y_m30 := zq_a zqm29
theorem zqm31 : y_Zq y_m31 := zq_a zqm30
theorem zqm32 : y_Zq y_m32 := zq_a zqm31
theorem zqm33 : y_Zq y_m33 := zq_a zqm32
theorem zqm34 : y_Zq y_m34 := zq_a zqm33
theorem zqm35 : y_Zq y_m35 := zq_a zqm34
theorem zqm36 : y_Zq y_m36 := zq_a zqm35
theorem zqm37 : y_Zq y_m37 := zq_a zqm36
theorem zqm38 : y_Zq y_m38 := zq_a zqm37
theorem zqm39 : y_Zq y_m39 := zq_a zqm38
theorem zqm40 : y_Zq y_m40 := zq_a zqm39
theorem zqm41 : y_Zq y_m41 := zq_a zqm40
theorem zqm42 : y_Zq y_m42 := zq_a zqm41
theorem zqm43 : y_Zq y_m43 := zq_a zqm42
theorem zqm44 : y_Zq y_m44 := zq_a zqm43
theorem zqm45 : y_Zq y_m45 := zq_a zqm44
theorem zqm46 : y_Zq y_m46 := zq_a zqm45
theorem zqm47 : y_Zq y_m47 := zq_a zqm46
theorem zqm48 : y_Zq y_m48 := zq_a zqm47
theorem zqm49 : y_Zq y_m49 := zq_a zqm48
theorem zqm50 : y_Zq y_m50 := zq_a zqm49
theorem zqm51 : y_Zq y_m51 := zq_a zqm50
theorem zqm52 : y_Zq y_m52 := zq_a zqm51
theorem zqm53 : y_Zq y_m53 := zq_a zqm52
theorem zqm54 : y_Zq y_m54 := zq_a zqm53
theorem zqm55 : y_Zq y_m55 := zq_a zqm54
theorem zqm56 : y_Zq y_m56 := zq_a zqm55
theorem zqm57 : y_Zq y_m57 := zq_a zqm56
theorem zqm58 : y_Zq y_m58 := zq_c zqm57
theorem z0m0 : y_Z0 y_m0 := z00
theorem z0m1 : y_Z0 y_m1 := z0_f z0m0
theorem z0m2 : y_Z0 y_m2 := z0_f z0m1
theorem z0m3 : y_Z0 y_m3 := z0_iX5 z0m2
theorem z0m4 : y_Z0 y_m4 := z0_e z0m3
theorem z0m5 : y_Z0 y_m5 := z0_c z0m4
theorem z0m6 : y_Z0 y_m6 := z0_e z0m5
theorem z0m7 : y_Z0 y_m7 := z0_f z0m6
theorem z0m8 : y_Z0 y_m8 := z0_iX9 z0m7
theorem z0m9 : y_Z0 y_m9 := z0_b z0m8
theorem z0m10 : y_Z0 y_m10 := z0_f z0m9
theorem z0m11 : y_Z0 y_m11 := z0_iX9 z0m10
theorem z0m12 : y_Z0 y_m12 := z0_b z0m11
theorem z0m13 : y_Z0 y_m13 := z0_f z0m12
theorem z0m14 : y_Z0 y_m14 := z0_iX9 z0m13
theorem z0m15 : y_Z0 y_m15 := z0_b z0m14
theorem z0m16 : y_Z0 y_m16 := z0_f z0m15
theorem z0m17 : y_Z0 y_m17 := z0_iX9 z0m16
theorem z0m18 : y_Z0 y_m18 := z0_b z0m17
theorem z0m19 : y_Z0 y_m19 := z0_f z0m18
theorem z0m20 : y_Z0 y_m20 := z0_iX8 z0m19
theorem z0m21 : y_Z0 y_m21 := z0_e z0m20
theorem z0m22 : y_Z0 y_m22 := z0_f z0m21
theorem z0m23 : y_Z0 y_m23 := z0_iX1 z0m22
theorem z0m24 : y_Z0 y_m24 := z0_e z0m23
theorem z0m25 : y_Z0 y_m25 := z0_c z0m24
theorem z0m26 : y_Z0 y_m26 := z0_e z0m25
theorem z0m27 : y_Z0 y_m27 := z0_f z0m26
theorem z0m28 : y_Z0 y_m28 := z0_iX12 z0m27
theorem zrm28 : y_Zr y_m28 := zr_0 z0m28
theorem zrm29 : y_Zr y_m29 := zr_a (by decide +kernel) zrm28
theorem zrm30 : y_Zr y_m30 := zr_a (by decide +kernel) zrm29
theorem zrm31 : y_Zr y_m31 := zr_a (by decide +kernel) zrm30
theorem zrm32 : y_Zr y_m32 := zr_a (by decide +kernel) zrm31
theorem zrm33 : y_Zr y_m33 := zr_a (by decide +kernel) zrm32
theorem zrm34 : y_Zr y_m34 := zr_a (by decide +kernel) zrm33
theorem zrm35 : y_Zr y_m35 := zr_a (by decide +kernel) zrm34
theorem zrm36 : y_Zr y_m36 := zr_a (by decide +kernel) zrm35
theorem zrm37 : y_Zr y_m37 := zr_a (by decide +kernel) zrm36
theorem zrm38 : y_Zr y_m38 := zr_a (by decide +kernel) zrm37
theorem zrm39 : y_Zr y_m39 := zr_a (by decide +kernel) zrm38
theorem zrm40 : y_Zr y_m40 := zr_a (by decide +kernel) zrm39
theorem zrm41 : y_Zr y_m41 := zr_a (by decide +kernel) zrm40
theorem zrm42 : y_Zr y_m42 := zr_a (by decide +kernel) zrm41
theorem zrm43 : y_Zr y_m43 := zr_a (by decide +kernel) zrm42
theorem zrm44 : y_Zr y_m44 := zr_a (by decide +kernel) zrm43
theorem zrm45 : y_Zr y_m45 := zr_a (by decide +kernel) zrm44
theorem zrm46 : y_Zr y_m46 := zr_a (by decide +kernel) zrm45
theorem zrm47 : y_Zr y_m47 := zr_a (by decide +kernel) zrm46
theorem zrm48 : y_Zr y_m48 := zr_a (by decide +kernel) zrm47
theorem zrm49 : y_Zr y_m49 := zr_a (by decide +kernel) zrm48
theorem zrm50 : y_Zr y_m50 := zr_a (by decide +kernel) zrm49
theorem zrm51 : y_Zr y_m51 := zr_a (by decide +kernel) zrm50
theorem zrm52 : y_Zr y_m52 := zr_a (by decide +kernel) zrm51
theorem zrm53 : y_Zr y_m53 := zr_a (by decide +kernel) zrm52
theorem zrm54 : y_Zr y_m54 := zr_a (by decide +kernel) zrm53
theorem zrm55 : y_Zr y_m55 := zr_a (by decide +kernel) zrm54
theorem zrm56 : y_Zr y_m56 := zr_a (by decide +kernel) zrm55
theorem zrm57 : y_Zr y_m57 := zr_a (by decide +kernel) zrm56
theorem zrm58 : y_Zr y_m58 := zr_c zrm57
theorem ai58 {x j : Nat} (hx : x ∉ ([41, 42, 43, 44, 68, 84, 85, 87, 88, 89, 90, 92, 94, 102] : List Nat)) : z_ai y_m58 x j = 0 := by
  have f : ∀ (C : z_Mem) (a i : Nat) (v : Int32), a ∈ ([41, 42, 43, 44, 68, 84, 85, 87, 88, 89, 90, 92, 94, 102] : List Nat) → z_ai C x j = 0 → z_ai (z_sai C a i v) x j = 0 := fun C a i v ha h => by
    rw [zq_ai_sai, if_neg (fun (e : x = a) => hx (e ▸ ha))]; exact h
  have h28 : z_ai y_m28 x j = 0 := z0m28 x j
  have h29 : z_ai y_m29 x j = 0 := f _ _ _ _ (by decide) h28
  have h30 : z_ai y_m30 x j = 0 := f _ _ _ _ (by decide) h29
  have h31 : z_ai y_m31 x j = 0 := f _ _ _ _ (by decide) h30
  have h32 : z_ai y_m32 x j = 0 := f _ _ _ _ (by decide) h31
  have h33 : z_ai y_m33 x j = 0 := f _ _ _ _ (by decide) h32
  have h34 : z_ai y_m34 x j = 0 := f _ _ _ _ (by decide) h33
  have h35 : z_ai y_m35 x j = 0 := f _ _ _ _ (by decide) h34
  have h36 : z_ai y_m36 x j = 0 := f _ _ _ _ (by decide) h35
  have h37 : z_ai y_m37 x j = 0 := f _ _ _ _ (by decide) h36
  have h38 : z_ai y_m38 x j = 0 := f _ _ _ _ (by decide) h37
  have h39 : z_ai y_m39 x j = 0 := f _ _ _ _ (by decide) h38
  have h40 : z_ai y_m40 x j = 0 := f _ _ _ _ (by decide) h39
  have h41 : z_ai y_m41 x j = 0 := f _ _ _ _ (by decide) h40
  have h42 : z_ai y_m42 x j = 0 := f _ _ _ _ (by decide) h41
  have h43 : z_ai y_m43 x j = 0 := f _ _ _ _ (by decide) h42
  have h44 : z_ai y_m44 x j = 0 := f _ _ _ _ (by decide) h43
  have h45 : z_ai y_m45 x j = 0 := f _ _ _ _ (by decide) h44
  have h46 : z_ai y_m46 x j = 0 := f _ _ _ _ (by decide) h45
  have h47 : z_ai y_m47 x j = 0 := f _ _ _ _ (by decide) h46
  have h48 : z_ai y_m48 x j = 0 := f _ _ _ _ (by decide) h47
  have h49 : z_ai y_m49 x j = 0 := f _ _ _ _ (by decide) h48
  have h50 : z_ai y_m50 x j = 0 := f _ _ _ _ (by decide) h49
  have h51 : z_ai y_m51 x j = 0 := f _ _ _ _ (by decide) h50
  have h52 : z_ai y_m52 x j = 0 := f _ _ _ _ (by decide) h51
  have h53 : z_ai y_m53 x j = 0 := f _ _ _ _ (by decide) h52
  have h54 : z_ai y_m54 x j = 0 := f _ _ _ _ (by decide) h53
  have h55 : z_ai y_m55 x j = 0 := f _ _ _ _ (by decide) h54
  have h56 : z_ai y_m56 x j = 0 := f _ _ _ _ (by decide) h55
  have h57 : z_ai y_m57 x j = 0 := f _ _ _ _ (by decide) h56
  show z_ai (z_nwa y_m57 25 1) x j = 0
  rw [zq_ai_nwa]
  split
  · rfl
  · exact h57
theorem c394_2 : z_fi y_m58 394 2 = 0 := by decide +kernel
theorem c394_4 : z_fi y_m58 394 4 = 0 := by decide +kernel
theorem c395_2 : z_fi y_m58 395 2 = 0 := by decide +kernel
theorem c395_4 : z_fi y_m58 395 4 = 0 := by decide +kernel
theorem c385_2 : z_fi y_m58 385 2 = 2 := by decide +kernel
theorem c385_4 : z_fi y_m58 385 4 = 2 := by decide +kernel
theorem c1281_6 : z_fi y_m58 1281 6 = 0 := by decide +kernel
theorem c1281_8 : z_fi y_m58 1281 8 = 0 := by decide +kernel
theorem c266_33 : z_fi y_m58 266 33 = 0 := by decide +kernel
theorem c266_36 : z_fi y_m58 266 36 = 0 := by decide +kernel
theorem c133_31 : z_fi y_m58 133 31 = 0 := by decide +kernel
theorem c137_31 : z_fi y_m58 137 31 = 0 := by decide +kernel
theorem c145_31 : z_fi y_m58 145 31 = 3 := by decide +kernel
theorem c645_1 : z_fi y_m58 645 1 = 0 := by decide +kernel
theorem c1536_40 : z_fi y_m58 1536 40 = 0 := by decide +kernel
theorem c1551_40 : z_fi y_m58 1551 40 = 0 := by decide +kernel
theorem c1554_40 : z_fi y_m58 1554 40 = 0 := by decide +kernel
theorem c1559_40 : z_fi y_m58 1559 40 = 0 := by decide +kernel
theorem c1561_40 : z_fi y_m58 1561 40 = 0 := by decide +kernel
theorem c1575_40 : z_fi y_m58 1575 40 = -1 := by decide +kernel
theorem c1576_40 : z_fi y_m58 1576 40 = 0 := by decide +kernel
theorem c1577_40 : z_fi y_m58 1577 40 = 0 := by decide +kernel
theorem c1578_40 : z_fi y_m58 1578 40 = -1 := by decide +kernel
theorem c1579_40 : z_fi y_m58 1579 40 = 0 := by decide +kernel
theorem c1580_40 : z_fi y_m58 1580 40 = 0 := by decide +kernel
theorem c1585_40 : z_fi y_m58 1585 40 = 0 := by decide +kernel
theorem c1590_40 : z_fi y_m58 1590 40 = 3 := by decide +kernel
theorem c1606_40 : z_fi y_m58 1606 40 = 0 := by decide +kernel
theorem c84_0 : z_ai y_m58 84 0 = 160 := by decide +kernel
theorem c84_1 : z_ai y_m58 84 1 = 160 := by decide +kernel
section ZB
variable {n : Nat} {M : z_Mem}
theorem y_V0 (h : y_B n M y_m58 601024 108 7293034 89908 108) : y_V n 512 M := by
  have S := y_S0 h
  obtain ⟨⟨⟨-, lf, lr⟩, h2, h3, h4, h5, h6, h7, h8, h9, h10⟩, r1, r2, -⟩ := h
  have fi : ∀ g a v, z_fi y_m58 g a = v → z_fi M g (n + a) = v := fun g a v e => by rw [h3, e]
  have fa : ∀ g v, (∀ k, z_fi y_m58 g k = v) → v = 0 → ∀ a, z_fi M g a = v := fun g v e hv a => by
    rcases (show a < n ∨ n ≤ a by omega) with q | q
    · rw [lf g a q, hv]
    · obtain ⟨k, rfl⟩ : ∃ k, a = n + k := ⟨a - n, by omega⟩
      rw [h3, e]
  have n1 := fi 645 1 _ c645_1
  refine ⟨⟨by rw [n1]; decide, by rw [n1]; decide, S, ⟨fun a ha => ?_, ?_, ?_, fun a ha => ?_, ?_, fun a => ?_, fun a => ?_, ?_⟩, ⟨?_, ?_⟩, fun m b hb => ?_, ⟨fun _ _ => rfl, fun _ _ _ _ => rfl, Iff.rfl⟩, fun _ _ _ _ => rfl, fun _ _ _ => rfl, Nat.le_refl _, fun _ h => h⟩, S, ⟨?_, ?_, ?_, ?_, ?_, ?_, ?_, ?_, ?_, ?_, ?_, ?_⟩, rf_Krf⟩
  · rcases ha with rfl | rfl
    · rw [fi 394 2 _ c394_2, fi 395 2 _ c395_2, fi 385 2 _ c385_2]; decide
    · rw [fi 394 4 _ c394_4, fi 395 4 _ c395_4, fi 385 4 _ c385_4]; decide
  · rw [fi 1281 6 _ c1281_6]; decide
  · rw [fi 1281 8 _ c1281_8]; decide
  · rcases ha with rfl | rfl
    · rw [fi 266 33 _ c266_33]; decide
    · rw [fi 266 36 _ c266_36]; decide
  · rw [fi 133 31 _ c133_31]; decide
  · rw [fa 771 0 zqm58.1 rfl]; decide
  · rw [fa 3 0 zqm58.2.1 rfl]; decide
  · rw [fi 145 31 _ c145_31]; decide
  · rw [n1, fi 1281 6 _ c1281_6, fi 133 31 _ c133_31, fi 137 31 _ c137_31, h9]
    have e : 6 * 512 + 168 * (2000 - (0 : Int32).toInt).toNat + 9 * (0 : Int32).toInt.toNat + 3 * (400 - (0 : Int32).toInt).toNat + (if (0 : Int32) = 0 then 2 else 0) = 340274 := by decide
    omega
  · rw [n1, fi 1281 6 _ c1281_6, fi 133 31 _ c133_31, fi 137 31 _ c137_31, h10]
    have e : 32 * 512 + 754 * (2000 - (0 : Int32).toInt).toNat + 40 * (0 : Int32).toInt.toNat + 30 * (400 - (0 : Int32).toInt).toNat + (if (0 : Int32) = 0 then 16 else 0) = 1536400 := by decide
    omega
  · rcases (show m < n ∨ n ≤ m by omega) with q | q
    · rw [lr 516 m q] at hb; cases hb
    · obtain ⟨k, rfl⟩ : ∃ k, m = n + k := ⟨m - n, by omega⟩
      rw [h4, zqm58.2.2] at hb; cases hb
  · intro r hr j
    dsimp only
    rw [h5]; exact zrm58 r hr j
  · intro r hr
    dsimp only
    rw [h3]
    have : rf_RF.all (fun r => decide (r.2.1 ≤ (z_fi y_m58 r.1 40).toInt) && decide ((z_fi y_m58 r.1 40).toInt ≤ r.2.2)) = true := by decide +kernel
    have g := List.all_eq_true.mp this r hr
    simp only [Bool.and_eq_true, decide_eq_true_eq] at g
    exact g
  · intro j _
    dsimp only
    rw [h5, h5, ai58 (by decide), ai58 (by decide)]; decide
  · intro k
    dsimp only
    rw [h5, ai58 (by decide), fi 1536 40 _ c1536_40]; decide
  · intro k
    dsimp only
    rw [h5, h5, ai58 (by decide), ai58 (by decide)]; decide
  · intro p hp
    have hz := rf_c_le (p := fun k => decide (z_ai M (n + 76) k = 0)) 400
    have e84 : z_ai M (n + 84) p = 160 := by
      rw [h5]
      rcases (show p = 0 ∨ p = 1 by omega) with e | e
      · rw [e]; exact c84_0
      · rw [e]; exact c84_1
    dsimp only
    rw [e84, h5, h5, h5, h5, ai58 (by decide), ai58 (by decide), ai58 (by decide), ai58 (by decide), fi 1536 40 _ c1536_40, show (0 : Int32).toInt = 0 from rfl, show (160 : Int32).toInt = 160 from rfl]
    refine ⟨by omega, by omega, by omega, by omega, by omega, ?_, by omega⟩
    omega
  · refine ⟨fun i => ?_, fun t ht => ?_⟩
    · dsimp only
      rw [h5, ai58 (by decide), show (0 : Int32).toInt = 0 from rfl]; exact ⟨fun _ => by omega, fun _ => by omega⟩
    · dsimp only at ht
      rw [h5, ai58 (by decide)] at ht; exact absurd ht (by decide)
  · intro ht
    dsimp only at ht
    rw [fi 1576 40 _ c1576_40] at ht; exact absurd ht (by decide)
  · refine ⟨fun e => ?_, ?_⟩
    · dsimp only at e
      rw [fi 1577 40 _ c1577_40] at e; exact absurd e (by decide)
    · dsimp only
      rw [fi 1580 40 _ c1580_40, fi 1536 40 _ c1536_40]; decide
  · intro k hk
    dsimp only at hk
    rw [h5, ai58 (by decide)] at hk; exact absurd hk (by decide)
  · unfold rf_C11
    dsimp only
    rw [h5, h5, ai58 (by decide), ai58 (by decide), fi 1554 40 _ c1554_40, fi 1551 40 _ c1551_40]
    show (0 : Int) + ((0 : Nat) : Int) + ((0 : Nat) : Int) ≤ 0
    decide
  · unfold rf_C12
    dsimp only
    have T0 : (0 : Int32).toInt = 0 := rfl
    have e1 := (congrArg Int32.toInt (fi 1536 40 _ c1536_40)).trans T0
    have e2 := (congrArg Int32.toInt (fi 1551 40 _ c1551_40)).trans T0
    have e4 := (congrArg Int32.toInt (fi 1559 40 _ c1559_40)).trans T0
    have e5 := (congrArg Int32.toInt (fi 1561 40 _ c1561_40)).trans T0
    have e6 := (congrArg Int32.toInt (fi 1606 40 _ c1606_40)).trans T0
    have e7 := (congrArg Int32.toInt (fi 1580 40 _ c1580_40)).trans T0
    rw [if_pos (fi 1579 40 _ c1579_40)]
    refine ⟨by omega, by omega, by omega⟩
end ZB
