/-! ===== THE LIKENESS: what is due is taken ===== -/
section JTK
variable {n : Nat} {M M0 M1 M2 : z_Mem} {r r1 : q_R} {TL CL : List Nat} {t s q z : Nat} {d : Int}
theorem jI_sub {a b : Nat} (h : b ≤ a) (h2 : a < 2147483648) : nI a - nI b = nI (a - b) := by
  refine Int32.toInt_inj.mp ?_
  rw [i_subE (jI_t (by omega)) (jI_t (by omega)) (by omega) (by omega), jI_t (by omega)]; omega
theorem jI_le {a b : Nat} (ha : a < 2147483648) (hb : b < 2147483648) : nI a ≤ nI b ↔ a ≤ b := by
  rw [Int32.le_iff_toInt_le, jI_t ha, jI_t hb]; omega
theorem jI_lt {a b : Nat} (ha : a < 2147483648) (hb : b < 2147483648) : nI a < nI b ↔ a < b := by
  rw [Int32.lt_iff_toInt_lt, jI_t ha, jI_t hb]; omega
def j_tk (M : z_Mem) (a row l i : Nat) : z_Mem := z_sar (z_sfi (z_srr M row (va_cpy (z_ar M row) (z_ar M row) (i + 1) i (l - i - 1))) 1281 a (nI (l - 1))) row (l - 1) none
theorem j_tk_ar {a row l i j : Nat} (hj : j < l - 1) : z_ar (j_tk M a row l i) row j = z_ar M row (if j < i then j else j + 1) := by
  unfold j_tk
  rw [zq_ar_sar, if_pos rfl, if_neg (by omega), zq_ar_sfi, zq_ar_srr, if_pos rfl]
  unfold va_cpy
  by_cases h : j < i
  · rw [if_neg (by omega), if_pos h]
  · rw [if_pos (by omega), if_neg h]
    congr 1; omega
theorem j_tk_an {a row l i x : Nat} (hx : x ≠ row) : z_ar (j_tk M a row l i) x = z_ar M x := funext fun j => by
  unfold j_tk
  rw [zq_ar_sar, if_neg hx, zq_ar_sfi, zq_ar_srr, if_neg hx]
theorem j_tk_fi {a row l i g b : Nat} : z_fi (j_tk M a row l i) g b = if g = 1281 then (if b = a then nI (l - 1) else z_fi M g b) else z_fi M g b := rfl
theorem t_take {a row l : Nat} {D : Nat → Int32} {now : Int32} (hr : z_fr M 1280 a = some row) (hl : z_fi M 1281 a = nI l) (hc : l ≤ z_ln M row) (hc2 : z_ln M row < 2147483648) (hD : ∀ i, i < l → ∃ m, z_ar M row i = some m ∧ z_fi M 514 m = D i) : ∀ k i, i + k = l → (∀ j, j < i → ¬ D j = now) →
    (cF_X10_takeDue_2 a now (nI i) M = (none, M) ∧ ∀ j, j < l → ¬ D j = now) ∨ (∃ i', i' < l ∧ (∀ j, j < i' → ¬ D j = now) ∧ D i' = now ∧ cF_X10_takeDue_2 a now (nI i) M = (z_ar M row i', j_tk M a row l i')) := by
  intro k
  induction k with
  | zero =>
    intro i hi hj
    refine Or.inl ⟨cUr_X10_takeDue_2 ?_, fun j h => hj j (by omega)⟩
    rw [cE_X10_takeDue_2, hl, if_pos ((jI_le (by omega) (by omega)).mpr (by omega))]
  | succ k ih =>
    intro i hi hj
    obtain ⟨m, hm, hd⟩ := hD i (by omega)
    have ei : (nI i).toNatClampNeg = i := jN_nI (by omega)
    have hB := cE_X10_takeDue_2 a now (nI i) M
    rw [hl, if_neg (fun h => absurd ((jI_le (by omega) (by omega)).mp h) (by omega)), hr] at hB
    replace hB := hB.trans (q_ste (b := row) rfl)
    rw [if_neg (fun h => absurd ((jI_le (by omega) (by omega)).mp h) (by omega))] at hB
    replace hB := hB.trans (q_ste (b := row) rfl)
    rw [ei] at hB
    replace hB := hB.trans (q_ops hm)
    by_cases hx : D i = now
    · refine Or.inr ⟨i, by omega, hj, hx, cUr_X10_takeDue_2 (hB.trans ?_)⟩
      rw [if_pos (hd.trans hx)]
      refine (q_ste (b := row) rfl).trans ?_
      refine (q_ste rfl).trans ?_
      refine (q_ste rfl).trans ?_
      refine (q_ste (b := row) ?_).trans ?_
      · show row = Option.getD (z_fr M 1280 a) 0
        rw [hr]; rfl
      refine (q_ste rfl).trans ?_
      have e1 : (nI i + 1).toNatClampNeg = i + 1 := by rw [jI_1, jI_add (by show i + 1 < _; omega)]; exact jN_nI (by omega)
      have e2 : (nI l - nI i - 1).toNatClampNeg = l - i - 1 := by rw [jI_sub (by omega) (by omega), jI_1, jI_sub (by show 1 ≤ l - i; omega) (by omega)]; exact jN_nI (by omega)
      have e3 : nI l - 1 = nI (l - 1) := by rw [jI_1, jI_sub (by show 1 ≤ l; omega) (by omega)]
      rw [e1, e2]
      show Sum.inr (z_ar M row i, z_sar (z_sfi (z_srr M row (va_cpy (z_ar M row) (z_ar M row) (i + 1) i (l - i - 1))) 1281 a (z_fi M 1281 a - 1)) row (jN (z_fi (z_sfi (z_srr M row (va_cpy (z_ar M row) (z_ar M row) (i + 1) i (l - i - 1))) 1281 a (z_fi M 1281 a - 1)) 1281 a)) none) = Sum.inr (z_ar M row i, j_tk M a row l i)
      rw [hl, e3, zq_fi_sfi, if_pos rfl, if_pos rfl, jN_nI (by omega)]
      rfl
    · rw [if_neg (fun h => hx (hd.symm.trans h)), cE_X10_takeDue_83] at hB
      have e1 : nI i + 1 = nI (i + 1) := by rw [jI_1, jI_add (by show i + 1 < _; omega)]
      replace hB := hB.trans (q_ste (b := nI (i + 1)) e1.symm)
      rw [cUl_X10_takeDue_2 hB]
      refine ih (i + 1) (by omega) (fun j hj2 => ?_)
      by_cases h : j = i
      · rw [h]; exact hx
      · exact hj j (by omega)
end JTK
