/-! ===== THE LAW: use, both sides, while path 1 is not used ===== -/
section GU
variable {n c s cc t q z : Nat} {M0 M M1 M2 : z_Mem} {r r' : q_R} {p1 p2 p3 p4 p5 p6 : Int32}
theorem v_L_use {Post : Int32 → z_Mem → Prop} (W : y_W n (c + 6) (s + 32) M) (X : jX n cc M r)
    (k0 : (0 ≤ p2.toInt ∧ p2.toInt ≤ 2) → (¬ p2 = 1 → ¬ r.2 92 0 = 0) → (¬ p2 = 0 → ¬ r.2 92 1 = 0) → ∀ M1, y_W n c s M1 → y_RT n M M1 → M1 = z_sal (z_sfi M 143 (n + 31) p2) (n + 107) 0 ((r.1 1583).toInt64) → Post 0 M1)
    (k1 : ¬ (0 ≤ p2.toInt ∧ p2.toInt ≤ 2) → ∀ M1, y_W n c s M1 → y_RT n M M1 → jX n (cc + 1) M1 (uf r 1630 1) → Post 1 M1)
    (k2 : (0 ≤ p2.toInt ∧ p2.toInt ≤ 2) → ¬ ((¬ p2 = 1 → ¬ r.2 92 0 = 0) ∧ (¬ p2 = 0 → ¬ r.2 92 1 = 0)) → ∀ M1, y_W n c s M1 → y_RT n M M1 → jX n (cc + 1) M1 (uf r 1630 2) → Post 2 M1) : P_L_use (some (n + 0)) p2 (some (n + 107)) M Post := by
  have e0 := js_898_32 X.1
  have e1 := js_898_35 X.1
  have e3 := js_143_31 X.1
  refine z_nn_of rfl (u_X11_use (n := n) (y_WI W) (fun hp h0 h1 M1 D e => ?_) (fun hp M1 D => Or.inl ⟨rfl, k1 hp M1 (y_Wd W D.1) (y_DT D.1) (jX_thr X D.2 ⟨1, rfl⟩)⟩) (fun hp h M1 D => Or.inr ⟨rfl, k2 hp (by rw [e0, e1] at h; exact h) M1 (y_Wd W D.1) (y_DT D.1) (jX_thr X D.2 ⟨2, rfl⟩)⟩))
  rw [e0] at h0
  rw [e1] at h1
  rw [e3]
  have W1 := y_Wd W D
  have T1 := y_DT D
  refine z_nn_of rfl (And.intro (vp_of (L := 1) (s_l107 W1.2.2.1) (by decide) (by decide)) ?_)
  intro M5 e5
  have D5 := r_sal W1.2.2 e5
  have e := D5.2.2.2
  refine k0 hp h0 h1 M5 ⟨by rw [e]; exact W1.1, by rw [e]; exact W1.2.1, by rw [e]; exact D5.1⟩ (y_Ttr T1 (y_DT D5)) ?_
  rw [e5]
  rename_i e6
  rw [e6]
  rfl
/-- the reference's use: what it answers, what it throws -/
theorem g_use {Post : Int32 → z_Mem → Prop} (S1 : y_S n M1) (R1 : q_rep n M1 r) (J1 : rf_J n t s q z M1 M1) (k : ∀ x r1 M2, qF_use p1 r = (x, r1) → rf_J n t s q z M2 M2 → rf_KC n M1 M2 → q_rep n M2 r1 → Post x M2) : P_X12_use (n + 40) p1 M1 Post :=
  qS_use (Q := fun (_ : Int32) M2 => rf_J n t s q z M2 M2 ∧ rf_K3 n M1 M2) S1 R1 (t_X12_use J1 (fun _ M2 J2 K2 => ⟨J2, K2⟩)) (fun x M2 r1 Q S2 R2 e => k x r1 M2 e Q.1 Q.2.1 R2)
theorem zal_sal {a j : Nat} {v : Int64} : z_al (z_sal M a j v) a j = v := by
  show (if a = a then (if j = j then v else z_al M a j) else z_al M a j) = v
  rw [if_pos rfl, if_pos rfl]
end GU
