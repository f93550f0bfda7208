/-! ===== THE LAW, both phases: path 1 not used yet (alike), or used (paths that are checked stay so) ===== -/
section HA
variable {n k c s cc : Nat} {u p : Int32} {b : Prop} {M M1 M2 : z_Mem} {r r1 r2 : q_R} {F : q_R → q_R}
/-- what is checked stays so, which are used stays: class and reference -/
def gC (n : Nat) (b : Prop) (M : z_Mem) : Prop := ∃ u, mRc n u b M ∧ mQc n u b M
def hPh (n cc : Nat) (M : z_Mem) : Prop := (gC n False M ∧ pA n cc M) ∨ gC n True M
/-- before a call -/
def hV (n k cc : Nat) (M : z_Mem) : Prop := y_V n k M ∧ hPh n cc M
/-- between the class's call and the reference's -/
def hMid (n k cc : Nat) (F : q_R → q_R) (M : z_Mem) : Prop := y_W n (6 * k) (32 * k) M ∧ rf_J n (k + 61) (k + 61) (k + 61) 0 M M ∧ ((gC n False M ∧ ∃ r, q_rep n M r ∧ jX n cc M (F r)) ∨ gC n True M)
theorem mQc_RT (T : y_RT n M M1) (h : mQc n u b M) : mQc n u b M1 := by
  obtain ⟨a1, a2, a3⟩ := h
  refine ⟨by rw [T.1 1583 (by decide)]; exact a1, by rw [T.2 92 0 (by decide) (by decide)]; exact a2, fun hb => by rw [T.2 92 1 (by decide) (by decide)]; exact a3 hb⟩
theorem mRc_KC (K : rf_KC n M M1) (h : mRc n u b M) : mRc n u b M1 := by
  obtain ⟨a0, a1, a2, a3⟩ := h
  have k5 := K.2.2.2.2.1
  have k8 := K.2.2.2.2.2.2.2.1
  refine ⟨by rw [k5]; exact a0, by rw [k8 898 _ (by decide)]; exact a1, fun hb => by rw [k8 898 _ (by decide)]; exact a2 hb, by rw [k8 143 _ (by decide)]; exact a3⟩
theorem mQc_rep (R : q_rep n M r) (h : r.1 1583 = u) (h0 : ¬ r.2 92 0 = 0) (h1 : b → ¬ r.2 92 1 = 0) : mQc n u b M := by
  refine ⟨(R.1 1583 (by decide)).trans h, by rw [R.2 92 0 (by decide) (by decide)]; exact h0, fun hb => by rw [R.2 92 1 (by decide) (by decide)]; exact h1 hb⟩
theorem h_j (J : rf_J n (k + 1 + 60) (k + 1 + 60) (k + 1 + 60) 0 M M) (W1 : y_W n (6 * k) (32 * k) M1) (T1 : y_RT n M M1) : rf_J n (k + 61) (k + 61) (k + 61) 0 M1 M1 := rf_w (t_JT J W1.2.2.1 T1) (by omega) (by omega) (by omega) (by omega)
theorem h_A (J : rf_J n (k + 1 + 60) (k + 1 + 60) (k + 1 + 60) 0 M M) (W1 : y_W n (6 * k) (32 * k) M1) (T1 : y_RT n M M1) (rc : mRc n u False M1) (hq : mQc n u False M) (R : q_rep n M r) (X : jX n cc M1 (F r)) : hMid n k cc F M1 := ⟨W1, h_j J W1 T1, Or.inl ⟨⟨u, rc, mQc_RT T1 hq⟩, r, q_repT R T1, X⟩⟩
theorem h_B (J : rf_J n (k + 1 + 60) (k + 1 + 60) (k + 1 + 60) 0 M M) (W1 : y_W n (6 * k) (32 * k) M1) (T1 : y_RT n M M1) (rc : mRc n u True M1) (hq : mQc n u True M) : hMid n k cc F M1 := ⟨W1, h_j J W1 T1, Or.inr ⟨u, rc, mQc_RT T1 hq⟩⟩
theorem h_C (W1 : y_W n (6 * k) (32 * k) M1) (J2 : rf_J n (k + 60) (k + 60) (k + 60) 0 M2 M2) (K2 : rf_KC n M1 M2) (hc : mRc n u False M1) (hq : mQc n u False M2) (P : pA n cc M2) : hV n k cc M2 := ⟨⟨t_WK W1 K2, J2⟩, Or.inl ⟨⟨u, mRc_KC K2 hc, hq⟩, P⟩⟩
theorem h_D (W1 : y_W n (6 * k) (32 * k) M1) (J2 : rf_J n (k + 60) (k + 60) (k + 60) 0 M2 M2) (K2 : rf_KC n M1 M2) (hc : mRc n u True M1) (hq : mQc n u True M2) : hV n k cc M2 := ⟨⟨t_WK W1 K2, J2⟩, Or.inr ⟨u, mRc_KC K2 hc, hq⟩⟩
/-- behind a query of the reference -/
theorem h_Q (V : hMid n k cc (fun r => r) M1) (J2 : rf_J n (k + 60) (k + 60) (k + 60) 0 M2 M2) (K2 : rf_K3 n M1 M2) (E : ∃ v, M2 = z_sfi M1 1630 (n + 40) v) : hV n k cc M2 := by
  obtain ⟨v, e⟩ := E
  have w : ∀ {u : Int32} {b : Prop}, mQc n u b M1 → mQc n u b M2 := fun h => by rw [e]; exact mQc_W.2.2 _ 1630 v (by decide) h
  obtain ⟨W1, J1, P⟩ := V
  rcases P with ⟨⟨u, hc, hq⟩, r, R, X⟩ | ⟨u, hc, hq⟩
  · exact h_C W1 J2 K2.1 hc (w hq) ⟨uf r 1630 v, by rw [e]; exact q_rep1630 R, jX_kc (jX_1630 X) K2.1⟩
  · exact h_D W1 J2 K2.1 hc (w hq)
theorem h_j0 (J1 : rf_J n (k + 61) (k + 61) (k + 61) 0 M1 M1) : rf_J n (k + 60) (k + 60) (k + 60) 0 M1 M1 := rf_w J1 (by omega) (by omega) (by omega) (by omega)
theorem h_jr (J1 : rf_J n (k + 61) (k + 61) (k + 61) 0 M1 M1) : rf_J n (k + 60) (k + 60 + 1) (k + 60 + 1) 0 M1 M1 := rf_w J1 (by omega) (by omega) (by omega) (by omega)
theorem h_j1 (J1 : rf_J n (k + 61) (k + 61) (k + 61) 0 M1 M1) : rf_J n (k + 60 + 1) (k + 60 + 1) (k + 60 + 1) 0 M1 M1 := rf_w J1 (by omega) (by omega) (by omega) (by omega)
theorem h_jw (J : rf_J n (k + 1 + 60) (k + 1 + 60) (k + 1 + 60) 0 M M) : rf_J n (k + 61) (k + 61) (k + 61) 0 M M := rf_w J (by omega) (by omega) (by omega) (by omega)
end HA
