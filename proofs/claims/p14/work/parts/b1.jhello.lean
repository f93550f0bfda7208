/-! ===== THE LIKENESS: a hello is said ===== -/
section JHL
variable {n : Nat} {M M0 M1 M2 : z_Mem} {r r1 r2 : q_R} {TL CL : List Nat} {t s q z : Nat}
/-- what was lost of the ones told to be lost -/
def q_l46 (p : Int32) (r r1 : q_R) : Prop := r1 = r ∨ r1 = ua r 46 p.toNatClampNeg (r.2 46 p.toNatClampNeg - 1)
theorem q_putsE {p s' i : Int32} (hs : ¬ s' = 2) : ∃ r1, q_l46 p r r1 ∧ (qF_puts p s' i r = r1 ∨ (qF_puts p s' i r = qF_puts_111 p s' i r1 ∧ r.2 51 p.toNatClampNeg < r.2 43 p.toNatClampNeg)) := by
  have h35 : ∀ (x : Int32) (a : q_R), a.2 51 = r.2 51 → a.2 43 = r.2 43 → (qF_puts_35 p s' i x a = a ∨ (qF_puts_35 p s' i x a = qF_puts_111 p s' i a ∧ r.2 51 p.toNatClampNeg < r.2 43 p.toNatClampNeg)) := fun x a h51 h43 => by
    have h55 : qF_puts_55 p s' i a = a := by
      have h1 := qE_puts_55 p s' i a
      have h2 := qE_puts_60 p s' i 1 a
      rw [if_neg (by decide), if_neg hs] at h2
      exact h1.trans h2
    have h1 := qE_puts_35 p s' i x a
    by_cases c : x = 0
    · rw [if_pos c, h51, h43] at h1
      by_cases c2 : r.2 51 p.toNatClampNeg < r.2 43 p.toNatClampNeg
      · rw [if_pos c2] at h1
        have h2 := qE_puts_60 p s' i 0 a
        rw [if_pos rfl, if_neg hs] at h2
        exact Or.inr ⟨h1.trans h2, c2⟩
      · rw [if_neg c2] at h1
        exact Or.inl (h1.trans h55)
    · rw [if_neg c] at h1
      exact Or.inl (h1.trans h55)
  have hQ := qE_puts p s' i r
  replace hQ := hQ.trans (q_ste (b := r.2 45 p.toNatClampNeg) rfl)
  by_cases c : r.2 45 p.toNatClampNeg = 0
  · rw [if_pos c] at hQ
    by_cases c2 : r.2 46 p.toNatClampNeg ≤ 0
    · rw [if_pos c2] at hQ
      refine ⟨r, Or.inl rfl, ?_⟩
      rw [hQ]
      exact h35 _ r rfl rfl
    · rw [if_neg c2] at hQ
      replace hQ := hQ.trans (q_ste rfl)
      refine ⟨_, Or.inr rfl, ?_⟩
      rw [hQ]
      exact h35 1 _ (ua_n (by decide)) (ua_n (by decide))
  · rw [if_neg c] at hQ
    refine ⟨r, Or.inl rfl, ?_⟩
    rw [hQ]
    exact h35 _ r rfl rfl
theorem q_putsE2 {p i : Int32} : ∃ r1, q_l46 p r r1 ∧ (qF_puts p 2 i r = ua r1 77 i.toNatClampNeg 3 ∨ (∃ v, qF_puts p 2 i r = qF_puts_111 p 2 i (ua r1 81 i.toNatClampNeg v) ∧ r.2 51 p.toNatClampNeg < r.2 43 p.toNatClampNeg)) := by
  have h35 : ∀ (x : Int32) (a : q_R), a.2 51 = r.2 51 → a.2 43 = r.2 43 → (qF_puts_35 p 2 i x a = ua a 77 i.toNatClampNeg 3 ∨ (∃ v, qF_puts_35 p 2 i x a = qF_puts_111 p 2 i (ua a 81 i.toNatClampNeg v) ∧ r.2 51 p.toNatClampNeg < r.2 43 p.toNatClampNeg)) := fun x a h51 h43 => by
    have h55 : qF_puts_55 p 2 i a = ua a 77 i.toNatClampNeg 3 := by
      have h1 := qE_puts_55 p 2 i a
      have h2 := qE_puts_60 p 2 i 1 a
      rw [if_neg (by decide), if_pos rfl] at h2
      exact h1.trans (h2.trans (q_ste rfl))
    have h1 := qE_puts_35 p 2 i x a
    by_cases c : x = 0
    · rw [if_pos c, h51, h43] at h1
      by_cases c2 : r.2 51 p.toNatClampNeg < r.2 43 p.toNatClampNeg
      · rw [if_pos c2] at h1
        have h2 := qE_puts_60 p 2 i 0 a
        rw [if_pos rfl, if_pos rfl] at h2
        have h110 : ∀ v : Int32, qF_puts_110 p 2 i 81 i v a = qF_puts_111 p 2 i (ua a 81 i.toNatClampNeg v) := fun v => (qE_puts_110 p 2 i 81 i v a).trans (q_ste rfl)
        refine Or.inr ?_
        by_cases c3 : a.2 51 p.toNatClampNeg < a.2 44 p.toNatClampNeg
        · rw [if_pos c3] at h2
          exact ⟨0, (h1.trans h2).trans (h110 0), c2⟩
        · rw [if_neg c3] at h2
          exact ⟨1, (h1.trans h2).trans (h110 1), c2⟩
      · rw [if_neg c2] at h1
        exact Or.inl (h1.trans h55)
    · rw [if_neg c] at h1
      exact Or.inl (h1.trans h55)
  have hQ := qE_puts p 2 i r
  replace hQ := hQ.trans (q_ste (b := r.2 45 p.toNatClampNeg) rfl)
  by_cases c : r.2 45 p.toNatClampNeg = 0
  · rw [if_pos c] at hQ
    by_cases c2 : r.2 46 p.toNatClampNeg ≤ 0
    · rw [if_pos c2] at hQ
      refine ⟨r, Or.inl rfl, ?_⟩
      rw [hQ]
      exact h35 _ r rfl rfl
    · rw [if_neg c2] at hQ
      replace hQ := hQ.trans (q_ste rfl)
      refine ⟨_, Or.inr rfl, ?_⟩
      rw [hQ]
      exact h35 1 _ (ua_n (by decide)) (ua_n (by decide))
  · rw [if_neg c] at hQ
    refine ⟨r, Or.inl rfl, ?_⟩
    rw [hQ]
    exact h35 _ r rfl rfl
theorem q_l46F {p : Int32} (h : q_l46 p r r1) : q_fr [] [46] r r1 := by
  rcases h with rfl | rfl
  · exact q_fr0
  · exact q_frua (by decide) q_fr0
theorem q_p111F {p s' i : Int32} : q_fr [1551] [50, 51, 52, 53, 54] r (qF_puts_111 p s' i r) := by
  rw [qC_puts_111]
  exact q_fruf (by decide) (q_frua (by decide) (q_frua (by decide) (q_frua (by decide) (q_frua (by decide) (q_frua (by decide) q_fr0)))))
theorem q_putsF {p s' i : Int32} (hs : ¬ s' = 2) : q_fr [1551] [46, 50, 51, 52, 53, 54] r (qF_puts p s' i r) := by
  obtain ⟨r1, h1, h2⟩ := q_putsE (r := r) (p := p) (i := i) hs
  rcases h2 with h2 | ⟨h2, -⟩
  · rw [h2]; exact q_frw (q_l46F h1) (by decide) (by decide)
  · rw [h2]; exact q_frt (q_frw (q_l46F h1) (by decide) (by decide)) (q_frw q_p111F (by decide) (by decide))
/-- the hello's number -/
theorem k_hel {tk c : Int32} (h0 : -1 ≤ tk.toInt) (h1 : tk.toInt ≤ 9) (hc : c = 0 ∨ c = 1) : (2 * (tk + 1) + c) / 2 - 1 = tk ∧ (c = 0 ↔ ¬ (2 * (tk + 1) + c) - (2 * (tk + 1) + c) / 2 * 2 = 1) ∧ 0 ≤ (2 * (tk + 1) + c).toInt ∧ (2 * (tk + 1) + c).toInt ≤ 21 := by
  have e1 : (tk + 1).toInt = tk.toInt + 1 := i_addE rfl (show (1 : Int32).toInt = 1 from rfl) (by omega) (by omega)
  have e2 : (2 * (tk + 1)).toInt = 2 * (tk.toInt + 1) := i_mulE (show (2 : Int32).toInt = 2 from rfl) e1 (by omega) (by omega)
  have ec : c.toInt = 0 ∨ c.toInt = 1 := by
    rcases hc with rfl | rfl
    · exact Or.inl rfl
    · exact Or.inr rfl
  have e3 : (2 * (tk + 1) + c).toInt = 2 * (tk.toInt + 1) + c.toInt := i_addE e2 rfl (by omega) (by omega)
  generalize hx : 2 * (tk + 1) + c = x at e3
  have e4 : (x / 2).toInt = tk.toInt + 1 := by
    rw [i_divE e3 (show (2 : Int32).toInt = 2 from rfl) (by omega) (by omega)]; omega
  have e5 : (x / 2 - 1).toInt = tk.toInt := by
    rw [i_subE e4 (show (1 : Int32).toInt = 1 from rfl) (by omega) (by omega)]; omega
  have e6 : (x / 2 * 2).toInt = 2 * (tk.toInt + 1) := by
    rw [i_mulE e4 (show (2 : Int32).toInt = 2 from rfl) (by omega) (by omega)]; omega
  have e7 : (x - x / 2 * 2).toInt = c.toInt := by
    rw [i_subE e3 e6 (by omega) (by omega)]; omega
  refine ⟨Int32.toInt_inj.mp e5, ?_, by omega, by omega⟩
  rw [Int32.toInt_inj.mp e7]
  rcases hc with rfl | rfl
  · exact ⟨fun _ => by decide, fun _ => rfl⟩
  · exact ⟨fun h => absurd h (by decide), fun h => absurd rfl h⟩
theorem q_hello (r : q_R) (hc : r.1 1579 = 0 ∨ r.1 1579 = 1) : qF_saysHello r = qF_puts 0 1 (2 * (r.1 1578 + 1) + r.1 1579) (ua (uf r 1580 (r.1 1536)) 106 3 (r.2 106 3 + 1)) := by
  have e3 : (3 : Int32).toNatClampNeg = 3 := rfl
  have hQ := qE_saysHello r
  rw [e3] at hQ
  replace hQ := hQ.trans (q_ste (b := uf r 1580 (r.1 1536)) rfl)
  replace hQ := hQ.trans (q_ste (b := ua (uf r 1580 (r.1 1536)) 106 3 (r.2 106 3 + 1)) rfl)
  rw [show (ua (uf r 1580 (r.1 1536)) 106 3 (r.2 106 3 + 1)).1 1579 = r.1 1579 from rfl, show (ua (uf r 1580 (r.1 1536)) 106 3 (r.2 106 3 + 1)).1 1578 = r.1 1578 from rfl] at hQ
  rcases hc with c | c
  · rw [if_pos c] at hQ
    rw [c]
    exact hQ.trans (q_ste rfl)
  · rw [if_neg (by rw [c]; decide)] at hQ
    rw [c]
    exact hQ.trans (q_ste rfl)
theorem j_sayHello (J : JJ n M r TL CL) (I2 : rf_I (t + 1) s q z (uf r 1580 (r.1 1536)).1 (uf r 1580 (r.1 1536)).2) (hc : r.1 1579 = 0 ∨ r.1 1579 = 1) : JJ n (cF_X1_sayHello (n + 31) M) (qF_saysHello r) TL CL := by
  have hB := cE_X1_sayHello (n + 31) M
  rw [q_hello r hc]
  have J2 : JJ n (z_sfi M 138 (n + 31) (z_fi M 138 (n + 31) + 1)) r TL CL := J.fc rfl (by decide)
  replace hB := hB.trans (q_ste (b := z_sfi M 138 (n + 31) (z_fi M 138 (n + 31) + 1)) rfl)
  generalize z_sfi M 138 (n + 31) (z_fi M 138 (n + 31) + 1) = W at hB J2
  replace hB := hB.trans (q_ste (b := n + 1) (by rw [s_128_31 J2.1]; rfl))
  rw [js_645_1 J2] at hB
  have J6 : JJ n (z_sfi W 139 (n + 31) (r.1 1536)) (ua (uf r 1580 (r.1 1536)) 106 3 (r.2 106 3 + 1)) TL CL := (J2.sf (j := 1580) rfl (by decide)).ra (by decide)
  replace hB := hB.trans (q_ste (b := z_sfi W 139 (n + 31) (r.1 1536)) rfl)
  have I3 : rf_I (t + 1) s q z (ua (uf r 1580 (r.1 1536)) 106 3 (r.2 106 3 + 1)).1 (ua (uf r 1580 (r.1 1536)) 106 3 (r.2 106 3 + 1)).2 := rI_a I2 (by decide)
  have k136 : z_fi (z_sfi W 139 (n + 31) (r.1 1536)) 136 (n + 31) = r.1 1578 := (js_136_31 J6).trans rfl
  have k137 : z_fi (z_sfi W 139 (n + 31) (r.1 1536)) 137 (n + 31) = r.1 1579 := (js_137_31 J6).trans rfl
  generalize z_sfi W 139 (n + 31) (r.1 1536) = V at hB J6 k136 k137
  have b78 := ri_F I2 (g := 1578) (lo := -1) (hi := 9) (by decide)
  rw [uf_n (show 1578 ≠ 1580 by decide)] at b78
  generalize ua (uf r 1580 (r.1 1536)) 106 3 (r.2 106 3 + 1) = R at J6 I3
  obtain ⟨E, w1, w2, w3, w4, w5, w6⟩ := j_newm J6.1 0
  have hz := J6.1.2.2.2
  replace hB := hB.trans (q_ste rfl)
  rw [X4F] at hB
  replace hB := hB.trans (q_ste rfl)
  generalize z_sfi (z_sfi (z_new V 5 8) 517 (z_sz V) (-1)) 512 (z_sz V) 0 = U at hB E w1 w2 w3 w4 w5 w6
  have u136 : z_fi U 136 (n + 31) = r.1 1578 := (E.2.2.1 136 (n + 31) (by omega)).trans k136
  rw [u136] at hB
  replace hB := hB.trans (q_ste (b := z_sfi U 517 (z_sz V) (r.1 1578)) rfl)
  have u137 : z_fi (z_sfi U 517 (z_sz V) (r.1 1578)) 137 (n + 31) = r.1 1579 := by rw [zq_fi_sfi, if_neg (by decide)]; exact (E.2.2.1 137 (n + 31) (by omega)).trans k137
  rw [u137] at hB
  replace hB := hB.trans (q_ste (b := z_sfi (z_sfi U 517 (z_sz V) (r.1 1578)) 518 (z_sz V) (r.1 1579)) rfl)
  have E2 : jE n V (z_sfi (z_sfi U 517 (z_sz V) (r.1 1578)) 518 (z_sz V) (r.1 1579)) := jE_sfi (jE_sfi E J6.1 (Nat.le_refl _) rfl) J6.1 (Nat.le_refl _) rfl
  have g512 : z_fi (z_sfi (z_sfi U 517 (z_sz V) (r.1 1578)) 518 (z_sz V) (r.1 1579)) 512 (z_sz V) = 0 := by rw [zq_fi_sfi, if_neg (by decide), zq_fi_sfi, if_neg (by decide)]; exact w2
  have g517 : z_fi (z_sfi (z_sfi U 517 (z_sz V) (r.1 1578)) 518 (z_sz V) (r.1 1579)) 517 (z_sz V) = r.1 1578 := by rw [zq_fi_sfi, if_neg (by decide), zq_fi_sfi, if_pos rfl, if_pos rfl]
  have g518 : z_fi (z_sfi (z_sfi U 517 (z_sz V) (r.1 1578)) 518 (z_sz V) (r.1 1579)) 518 (z_sz V) = r.1 1579 := by rw [zq_fi_sfi, if_pos rfl, if_pos rfl]
  have g514 : z_fi (z_sfi (z_sfi U 517 (z_sz V) (r.1 1578)) 518 (z_sz V) (r.1 1579)) 514 (z_sz V) = 0 := by rw [zq_fi_sfi, if_neg (by decide), zq_fi_sfi, if_neg (by decide)]; exact w5
  have g515 : z_fr (z_sfi (z_sfi U 517 (z_sz V) (r.1 1578)) 518 (z_sz V) (r.1 1579)) 515 (z_sz V) = none := w4
  have gsz : z_sz (z_sfi (z_sfi U 517 (z_sz V) (r.1 1578)) 518 (z_sz V) (r.1 1579)) = z_sz V + 1 := w1
  have S2 := E2.2.1
  generalize z_sfi (z_sfi U 517 (z_sz V) (r.1 1578)) 518 (z_sz V) (r.1 1579) = T' at hB E2 g512 g517 g518 g514 g515 gsz S2
  replace hB := hB.trans (q_ste (b := n + 1) (by rw [s_128_31 S2]; rfl))
  replace hB := hB.trans (q_ste rfl)
  rw [hB]
  obtain ⟨x1, x2, x3, x4⟩ := k_hel b78.1 b78.2 hc
  exact j_puts (p := 0) J6 E2 I3 (by decide) (Nat.le_refl _) (by rw [gsz]; exact Nat.lt_succ_self _) (Or.inl ⟨rfl, g512, g515, by rw [g517, x1], by rw [g518]; exact x2⟩) g514 (fun h => absurd h (by decide))
end JHL
