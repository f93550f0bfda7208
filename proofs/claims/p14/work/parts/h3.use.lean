/-! ===== THE LAW: use, both sides, both phases ===== -/
section HU
variable {n k c s cc : Nat} {u p2 : Int32} {b : Prop} {M M1 M2 : z_Mem} {r : q_R}
theorem u_L_use {Post : Int32 → z_Mem → Prop} (W : y_W n (c + 6) (s + 32) M)
    (k0 : (0 ≤ p2.toInt ∧ p2.toInt ≤ 2) → (¬ p2 = 1 → ¬ z_fi M 898 (n + 32) = 0) → (¬ p2 = 0 → ¬ z_fi M 898 (n + 35) = 0) → ∀ M1, y_W n c s M1 → y_RT n M M1 → M1 = z_sal (z_sfi M 143 (n + 31) p2) (n + 107) 0 ((z_fi M 143 (n + 31)).toInt64) → Post 0 M1)
    (k1 : ¬ (0 ≤ p2.toInt ∧ p2.toInt ≤ 2) → ∀ M1, y_W n c s M1 → y_RT n M M1 → (∃ k w, M1 = z_exc M k w) → Post 1 M1)
    (k2 : (0 ≤ p2.toInt ∧ p2.toInt ≤ 2) → ¬ ((¬ p2 = 1 → ¬ z_fi M 898 (n + 32) = 0) ∧ (¬ p2 = 0 → ¬ z_fi M 898 (n + 35) = 0)) → ∀ M1, y_W n c s M1 → y_RT n M M1 → (∃ k w, M1 = z_exc M k w) → Post 2 M1) : P_L_use (some (n + 0)) p2 (some (n + 107)) M Post := by
  refine z_nn_of rfl (u_X11_use (n := n) (y_WI W) (fun hp h0 h1 M1 D e => ?_) (fun hp M1 D => Or.inl ⟨rfl, k1 hp M1 (y_Wd W D.1) (y_DT D.1) D.2⟩) (fun hp h M1 D => Or.inr ⟨rfl, k2 hp h M1 (y_Wd W D.1) (y_DT D.1) D.2⟩))
  have W1 := y_Wd W D
  have T1 := y_DT D
  refine z_nn_of rfl (And.intro (vp_of (L := 1) (s_l107 W1.2.2.1) (by decide) (by decide)) ?_)
  intro M5 e5
  have D5 := r_sal W1.2.2 e5
  have e6 := D5.2.2.2
  refine k0 hp h0 h1 M5 ⟨by rw [e6]; exact W1.1, by rw [e6]; exact W1.2.1, by rw [e6]; exact D5.1⟩ (y_Ttr T1 (y_DT D5)) ?_
  rw [e5, e]
  rfl
theorem mRc_use {v : Int64} (h : mRc n u False M) (hb : b → ¬ z_fi M 898 (n + 35) = 0) : mRc n p2 b (z_sal (z_sfi M 143 (n + 31) p2) (n + 107) 0 v) := by
  obtain ⟨a0, a1, a2, a3⟩ := h
  refine ⟨a0, ?_, fun h => ?_, ?_⟩
  · show ¬ z_fi (z_sfi M 143 (n + 31) p2) 898 (n + 32) = 0
    rw [zq_fi_sfi, if_neg (by decide)]; exact a1
  · show ¬ z_fi (z_sfi M 143 (n + 31) p2) 898 (n + 35) = 0
    rw [zq_fi_sfi, if_neg (by decide)]; exact hb h
  · show z_fi (z_sfi M 143 (n + 31) p2) 143 (n + 31) = p2
    rw [zq_fi_sfi, if_pos rfl, if_pos rfl]
theorem gC_F (h : gC n True M) : gC n False M := by
  obtain ⟨u, ⟨a0, a1, a2, a3⟩, b1, b2, b3⟩ := h
  exact ⟨u, ⟨a0, a1, fun h => h.elim, a3⟩, b1, b2, fun h => h.elim⟩
/-- what use asks for is alike, and what it leaves -/
def hUk (n cc : Nat) (p2 : Int32) (M : z_Mem) : Prop := ∃ r, q_rep n M r ∧ (z_fi M 898 (n + 32) = 0 ↔ r.2 92 0 = 0) ∧ (z_fi M 898 (n + 35) = 0 ↔ r.2 92 1 = 0) ∧ z_fi M 143 (n + 31) = r.1 1583 ∧ (∀ M1 M2 v, (∃ k w, M1 = z_exc M k w) → rf_KC n M1 M2 → q_rep n M2 (uf r 1630 v) → hPh n (cc + 1) M2) ∧ (∀ M1 M2 v, (0 ≤ p2.toInt ∧ p2.toInt ≤ 2) → (¬ p2 = 1 → ¬ z_fi M 898 (n + 32) = 0) → (¬ p2 = 0 → ¬ z_fi M 898 (n + 35) = 0) → M1 = z_sal (z_sfi M 143 (n + 31) p2) (n + 107) 0 v → rf_KC n M1 M2 → q_rep n M2 (uf (uf r 1630 0) 1583 p2) → hPh n (cc + 1) M2)
theorem uf_q {v : Int32} : (uf (uf r 1630 v) 1583 p2).1 1583 = p2 := uf_e
theorem uf_q1 {v : Int32} : (uf r 1630 v).1 1583 = r.1 1583 := uf_n (by decide)
theorem hUk_of (P : hPh n cc M) : hUk n cc p2 M := by
  have good : ∀ {r : q_R} {b : Prop} {M1 M2 : z_Mem} {v : Int64}, gC n False M → q_rep n M r → (b → ¬ z_fi M 898 (n + 35) = 0) → (b → ¬ r.2 92 1 = 0) → M1 = z_sal (z_sfi M 143 (n + 31) p2) (n + 107) 0 v → rf_KC n M1 M2 → q_rep n M2 (uf (uf r 1630 0) 1583 p2) → gC n b M2 := fun {r b M1 M2 v} G R hb hb2 e K R2 => by
    obtain ⟨u, hc, hq⟩ := G
    refine ⟨p2, mRc_KC K (by rw [e]; exact mRc_use hc hb), mQc_rep R2 uf_q ?_ hb2⟩
    show ¬ r.2 92 0 = 0
    rw [← R.2 92 0 (by decide) (by decide)]; exact hq.2.1
  rcases P with ⟨G, r, R, X⟩ | G
  · have e0 := js_898_32 X.1
    have e1 := js_898_35 X.1
    have e3 := js_143_31 X.1
    refine ⟨r, R, by rw [e0], by rw [e1], e3, fun M1 M2 v E K R2 => ?_, fun M1 M2 v hp h0 h1 E K R2 => ?_⟩
    · obtain ⟨u, hc, hq⟩ := G
      obtain ⟨kk, w, e⟩ := E
      refine Or.inl ⟨⟨u, mRc_KC K (by rw [e]; exact mRc_exc _ _ _ hc), mQc_rep R2 ?_ ?_ (fun h => h.elim)⟩, uf r 1630 v, R2, jX_kc (by rw [e]; exact jX_c (jX_exc X) (by omega)) K⟩
      · rw [uf_q1, ← R.1 1583 (by decide)]; exact hq.1
      · show ¬ r.2 92 0 = 0
        rw [← R.2 92 0 (by decide) (by decide)]; exact hq.2.1
    · by_cases c : p2 = 0
      · refine Or.inl ⟨good G R (fun h => h.elim) (fun h => h.elim) E K R2, _, R2, jX_kc ?_ K⟩
        have h92 : ¬ r.2 92 0 = 0 := by
          obtain ⟨u, hc, hq⟩ := G
          rw [← R.2 92 0 (by decide) (by decide)]; exact hq.2.1
        have x0 := x_use0 X h92
        rw [q_use1 (by decide) (fun _ => h92) (fun h => absurd rfl h)] at x0
        rw [E, c]
        exact jX_s (jX_ext x0 (jE_sal x0.1.1))
      · exact Or.inr (good G R (fun _ => h1 c) (fun _ => by rw [← e1]; exact h1 c) E K R2)
  · obtain ⟨u, hc, hq⟩ := G
    refine ⟨(fun g => z_fi M g (n + 40), fun x j => z_ai M (n + x) j), ⟨fun _ _ => rfl, fun _ _ _ _ => rfl⟩, ⟨fun h => absurd h hc.2.1, fun h => absurd h hq.2.1⟩, ⟨fun h => absurd h (hc.2.2.1 trivial), fun h => absurd h (hq.2.2 trivial)⟩, hc.2.2.2.trans hq.1.symm, fun M1 M2 v E K R2 => ?_, fun M1 M2 v hp h0 h1 E K R2 => ?_⟩
    · obtain ⟨kk, w, e⟩ := E
      refine Or.inr ⟨u, mRc_KC K (by rw [e]; exact mRc_exc _ _ _ hc), mQc_rep R2 ?_ hq.2.1 hq.2.2⟩
      rw [uf_q1]; exact hq.1
    · exact Or.inr (good (gC_F ⟨u, hc, hq⟩) ⟨fun _ _ => rfl, fun _ _ _ _ => rfl⟩ (fun _ => hc.2.2.1 trivial) (fun _ => hq.2.2 trivial) E K R2)
/-- behind the class's use with code x: the reference's does alike -/
def hU (n k cc : Nat) (p2 x : Int32) (M1 : z_Mem) : Prop := ∀ (Q : Int32 → z_Mem → Prop), (∀ x0 M2, z_fi M2 1630 (n + 40) = x → (x = 0 → z_al M2 (n + 107) 0 = (x0 : Int32).toInt64) → hV n k cc M2 → Q x0 M2) → P_X12_use (n + 40) p2 M1 Q
theorem a_L_use {Post : Int32 → z_Mem → Prop} (V : hV n (k + 1) cc M) (K : ∀ x M1, hU n k (cc + 1) p2 x M1 → Post x M1) : P_L_use (some (n + 0)) p2 (some (n + 107)) M Post := by
  obtain ⟨⟨W, J⟩, P⟩ := V
  obtain ⟨r, R, e0, e1, e3, kx, kg⟩ := hUk_of (p2 := p2) P
  refine u_L_use (c := 6 * k) (s := 32 * k) W (fun hp h0 h1 M1 W1 T1 e => K 0 M1 (fun Q kQ => ?_)) (fun hp M1 W1 T1 e => K 1 M1 (fun Q kQ => ?_)) (fun hp h M1 W1 T1 e => K 2 M1 (fun Q kQ => ?_))
  · have J1 := h_j0 (h_j J W1 T1)
    refine g_use J1.1 (q_repT R T1) J1 (fun x r1 M2 E J2 K2 R2 => ?_)
    rw [q_use1 hp (fun h g => h0 h (e0.mpr g)) (fun h g => h1 h (e1.mpr g))] at E
    cases E
    refine kQ _ M2 ((R2.1 1630 (by decide)).trans ((uf_n (by decide)).trans uf_e)) (fun _ => ?_) ⟨⟨t_WK W1 K2, J2⟩, kg M1 M2 _ hp h0 h1 e K2 R2⟩
    rw [K2.2.2.2.1, e, zal_sal, e3]
  · have J1 := h_j0 (h_j J W1 T1)
    refine g_use J1.1 (q_repT R T1) J1 (fun x r1 M2 E J2 K2 R2 => ?_)
    rw [q_useX hp] at E
    cases E
    exact kQ _ M2 ((R2.1 1630 (by decide)).trans uf_e) (fun h => absurd h (by decide)) ⟨⟨t_WK W1 K2, J2⟩, kx M1 M2 _ e K2 R2⟩
  · have J1 := h_j0 (h_j J W1 T1)
    refine g_use J1.1 (q_repT R T1) J1 (fun x r1 M2 E J2 K2 R2 => ?_)
    rw [q_useS hp (fun g => h ⟨fun a b => g.1 a (e0.mp b), fun a b => g.2 a (e1.mp b)⟩)] at E
    cases E
    exact kQ _ M2 ((R2.1 1630 (by decide)).trans uf_e) (fun h => absurd h (by decide)) ⟨⟨t_WK W1 K2, J2⟩, kx M1 M2 _ e K2 R2⟩
end HU
