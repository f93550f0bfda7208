/-! ===== WHAT NETWORK AND SERVER KEEP TO: things leave a queue ===== -/
section NPD
variable {n : Nat} {M M0 M1 M2 M3 : z_Mem} {r r1 r2 : q_R} {TL CL : List Nat} {t s q z c w : Nat} {D : Int}
/-- what left -/
def q_lvF (p N : Nat) (k0 : Nat) (r b : q_R) : Prop := (∀ g, g ≠ 1554 → b.1 g = r.1 g) ∧ (∀ x, x ≠ 48 → x ≠ 55 → x ≠ 56 → b.2 x = r.2 x) ∧ 0 ≤ (b.1 1554).toInt ∧ (r.1 1554).toInt ≤ (b.1 1554).toInt ∧ (b.1 1554).toInt ≤ (r.1 1554).toInt + (N : Nat) ∧ (∀ i, i < jN (r.1 1554) → b.2 55 i = r.2 55 i ∧ b.2 56 i = r.2 56 i) ∧ (∀ i, jN (r.1 1554) ≤ i → i < jN (b.1 1554) → ∃ k', k0 ≤ k' ∧ k' < k0 + N ∧ b.2 55 i = r.2 50 (30 * p + k') ∧ ¬ r.2 50 (30 * p + k') = -1 ∧ (r.1 1536).toInt + 1 ≤ (b.2 56 i).toInt ∧ (b.2 56 i).toInt ≤ (r.1 1536).toInt + 80)
theorem q_tkE {p : Nat} {th : Int32} (A : jPA r) (hp : p < 2) (h0 : 0 ≤ (r.1 1554).toInt) (h1 : (r.1 1554).toInt < 2000) : ∃ v : Int32, (r.1 1536).toInt + 1 ≤ v.toInt ∧ v.toInt ≤ (r.1 1536).toInt + 80 ∧ (∀ g, g ≠ 1554 → (q_tk p th r).1 g = r.1 g) ∧ (q_tk p th r).1 1554 = r.1 1554 + 1 ∧ (∀ x, x ≠ 48 → x ≠ 55 → x ≠ 56 → (q_tk p th r).2 x = r.2 x) ∧ (∀ i, (q_tk p th r).2 55 i = if i = jN (r.1 1554) then th else r.2 55 i) ∧ (∀ i, (q_tk p th r).2 56 i = if i = jN (r.1 1554) then v else r.2 56 i) := by
  obtain ⟨A1, A2, A3, A4, A5⟩ := A
  have a1 := A1 p hp
  have a3 := A3 p hp
  have e1 : (r.1 1536 + r.2 41 p).toInt = (r.1 1536).toInt + (r.2 41 p).toInt := i_addE rfl rfl (by omega) (by omega)
  unfold q_tk
  by_cases c : r.2 48 p ≤ 0
  · rw [if_pos c]
    refine ⟨r.1 1536 + r.2 41 p + 0, by rw [Int32.add_zero, e1]; omega, by rw [Int32.add_zero, e1]; omega, fun g hg => ?_, uf_e, fun x h1 h2 h3 => ?_, fun i => ?_, fun i => ?_⟩
    · rw [uf_n hg]; rfl
    · rw [uf2, ua_n h3, ua_n h2]
    · rw [uf2, ua_n (by decide), ua2, if_pos rfl]
    · rw [uf2, ua2, if_pos rfl, ua_n (by decide)]
  · rw [if_neg c]
    have e2 : (r.1 1536 + r.2 41 p + r.2 49 p).toInt = (r.1 1536).toInt + (r.2 41 p).toInt + (r.2 49 p).toInt := i_addE e1 rfl (by omega) (by omega)
    refine ⟨r.1 1536 + r.2 41 p + r.2 49 p, by rw [e2]; omega, by rw [e2]; omega, fun g hg => ?_, uf_e, fun x h1 h2 h3 => ?_, fun i => ?_, fun i => ?_⟩
    · rw [uf_n hg]; rfl
    · rw [uf2, ua_n h3, ua_n h2, ua_n h1]
    · rw [uf2, ua_n (by decide), ua2, if_pos rfl, ua_n (by decide)]
    · rw [uf2, ua2, if_pos rfl, ua_n (by decide), ua_n (by decide)]
theorem q_LNx {p : Nat} (hp : p < 2) : ∀ (m k : Nat) (b : q_R), jPA b → 0 ≤ (b.1 1554).toInt → (b.1 1554).toInt + m < 2000 → q_lvF p m k b (q_LN p k m b) := by
  intro m
  induction m with
  | zero =>
    intro k b _ h0 _
    exact ⟨fun _ _ => rfl, fun _ _ _ _ => rfl, h0, Int.le_refl _, by show (b.1 1554).toInt ≤ _; omega, fun _ _ => ⟨rfl, rfl⟩, fun i h1 h2 => absurd h2 (by show ¬ i < jN (b.1 1554); omega)⟩
  | succ m ih =>
    intro k b A h0 h1
    have e : q_LN p k (m + 1) b = q_LN p (k + 1) m (q_L1 p k b) := rfl
    rw [e]
    unfold q_L1
    by_cases c : b.2 50 (30 * p + k) = -1
    · rw [if_pos c]
      obtain ⟨x1, x2, x3, x4, x5, x6, x7⟩ := ih (k + 1) b A h0 (by omega)
      refine ⟨x1, x2, x3, x4, by omega, x6, fun i hi1 hi2 => ?_⟩
      obtain ⟨k', y1, y2, y3⟩ := x7 i hi1 hi2
      exact ⟨k', by omega, by omega, y3⟩
    · rw [if_neg c]
      obtain ⟨v, v1, v2, t1, t2, t3, t4, t5⟩ := q_tkE (th := b.2 50 (30 * p + k)) A hp h0 (by omega)
      generalize q_tk p (b.2 50 (30 * p + k)) b = a at t1 t2 t3 t4 t5
      have ea : (a.1 1554).toInt = (b.1 1554).toInt + 1 := by rw [t2, i_addE rfl (show (1 : Int32).toInt = 1 from rfl) (by omega) (by omega)]
      have na := jN_toInt (x := a.1 1554) (by omega)
      have nb := jN_toInt h0
      obtain ⟨x1, x2, x3, x4, x5, x6, x7⟩ := ih (k + 1) a (jPA_c (t1 1536 (by decide)) (fun x hx => t3 x (by revert hx; revert x; decide) (by revert hx; revert x; decide) (by revert hx; revert x; decide)) A) (by omega) (by omega)
      generalize q_LN p (k + 1) m a = L at x1 x2 x3 x4 x5 x6 x7
      refine ⟨fun g hg => (x1 g hg).trans (t1 g hg), fun x h1 h2 h3 => (x2 x h1 h2 h3).trans (t3 x h1 h2 h3), x3, by omega, by omega, fun i hi => ?_, fun i hi1 hi2 => ?_⟩
      · have := x6 i (by omega)
        rw [this.1, this.2, t4, t5, if_neg (by omega), if_neg (by omega)]
        exact ⟨rfl, rfl⟩
      · by_cases ci : i < jN (a.1 1554)
        · have ei : i = jN (b.1 1554) := by omega
          have := x6 i ci
          refine ⟨k, Nat.le_refl _, by omega, ?_, c, ?_, ?_⟩
          · rw [this.1, t4, if_pos ei]
          · rw [this.2, t5, if_pos ei]; exact v1
          · rw [this.2, t5, if_pos ei]; exact v2
        · obtain ⟨k', y1, y2, y3, y4, y5, y6⟩ := x7 i (by omega) hi2
          rw [t3 50 (by decide) (by decide) (by decide)] at y3 y4
          rw [t1 1536 (by decide)] at y5 y6
          exact ⟨k', by omega, by omega, y3, y4, y5, y6⟩
theorem q_lvE (A : jPA r) {p : Nat} (hp : p < 2) (h0 : 0 ≤ (r.1 1554).toInt) (h1 : (r.1 1554).toInt ≤ 990) : ∃ (N : Nat) (b : q_R) (f : Nat → Int32), N ≤ jN (r.2 51 p) ∧ (0 < jN (r.2 51 p) → 0 < N) ∧ qF_leaves (nI p) r = ua (uA b 50 f) 51 p (r.2 51 p - nI N) ∧ q_lvF p N 0 r b ∧ (∀ j, N + j < jN (r.2 51 p) → f (30 * p + j) = r.2 50 (30 * p + (N + j))) ∧ (∀ i, (i < 30 * p ∨ 30 * p + 30 ≤ i) → f i = r.2 50 i) := by
  have A0 := A
  obtain ⟨A1, A2, A3, A4, A5⟩ := A
  have a2 := A2 p hp
  have a4 := A4 p
  have e4 := jN_toInt a4.1
  have ep : (nI p).toNatClampNeg = p := jN_nI (by omega)
  obtain ⟨N, hN, hNQ, hF⟩ : ∃ N : Nat, (0 < jN (r.2 51 p) → 0 < N) ∧ N ≤ jN (r.2 51 p) ∧ qF_leaves (nI p) r = qF_leaves_33 (nI p) (nI N) (nI 0) r := by
    rw [qE_leaves, ep]
    by_cases c : r.2 42 p ≤ r.2 51 p
    · have c' := i_le c rfl rfl
      have e2 := jN_toInt (x := r.2 42 p) (by omega)
      exact ⟨jN (r.2 42 p), fun _ => by omega, by omega, by rw [if_pos c, qE_leaves_30, jI_jN (by omega)]; rfl⟩
    · have c' := i_nle c rfl rfl
      exact ⟨jN (r.2 51 p), fun h => h, Nat.le_refl _, by rw [if_neg c, qE_leaves_30, jI_jN a4.1]; rfl⟩
  have L := q_LNx hp N 0 r A0 h0 (by omega)
  obtain ⟨l1, l2⟩ := q_LNr (p := p) N 0 r
  have h51 : (q_LN p 0 N r).2 51 p = nI (jN (r.2 51 p)) := by rw [l1 51 (by decide) (by decide) (by decide), jI_jN a4.1]
  obtain ⟨f, f1, f2, f3⟩ := q_lv157 (N := N) (Q := jN (r.2 51 p)) hp (by omega) hNQ (jN (r.2 51 p) - N) N (q_LN p 0 N r) h51 (Nat.le_refl _) (by omega)
  refine ⟨N, q_LN p 0 N r, f, hNQ, hN, ?_, L, fun j hj => ?_, fun i hi => ?_⟩
  · rw [hF, q_lv33 hp (by omega) N 0 r (by omega), f1, h51, jI_jN a4.1]
  · rw [f2 j (by omega) hj, l1 50 (by decide) (by decide) (by decide)]
  · rw [f3 i (by omega), l1 50 (by decide) (by decide) (by decide)]
theorem nP_lv (h : nP D c w r) (I : rf_I t s q z r.1 r.2) {p : Nat} (hp : p < 2) (hD1 : D ≤ 1) (hc : c ≤ 512) {D2 : Int} (hD2 : D2 = D ∨ (p = 0 ∧ D2 = D - 1)) (hD0 : 0 ≤ D2) : nP D2 c w (qF_leaves (nI p) r) := by
  obtain ⟨-, hl, -⟩ := nC_b h.2.2.2.2.1 I hc
  have b54 := ri_F I (g := 1554) (lo := 0) (hi := 1300) (by decide)
  have n54 := jN_toInt b54.1
  have bn := ri_now I
  obtain ⟨q1, ⟨g1, g2, g3, g4⟩, ⟨d1, d2, d3, d4, d5, d6, d7, d8⟩, s1, hC, p1⟩ := h
  obtain ⟨N, b, f, hN1, hN2, E, ⟨b1, b2, b3, b4, b5, b6, b7⟩, f1, f2⟩ := q_lvE p1.1 hp b54.1 (by omega)
  have A4 := p1.1.2.2.2.1
  have a4 := A4 p
  have na4 := jN_toInt a4.1
  have R1 : ∀ g, g ≠ 1554 → (qF_leaves (nI p) r).1 g = r.1 g := fun g hg => by rw [E]; exact b1 g hg
  have R54 : (qF_leaves (nI p) r).1 1554 = b.1 1554 := by rw [E]; rfl
  have R2 : ∀ x, x ≠ 48 → x ≠ 55 → x ≠ 56 → x ≠ 50 → x ≠ 51 → (qF_leaves (nI p) r).2 x = r.2 x := fun x h1 h2 h3 h4 h5 => by rw [E, ua_n h5, uA_n h4]; exact b2 x h1 h2 h3
  have R55 : (qF_leaves (nI p) r).2 55 = b.2 55 := by rw [E, ua_n (by decide), uA_n (by decide)]
  have R56 : (qF_leaves (nI p) r).2 56 = b.2 56 := by rw [E, ua_n (by decide), uA_n (by decide)]
  have R50 : (qF_leaves (nI p) r).2 50 = f := by rw [E, ua_n (by decide), uA_e]
  have R51 : ∀ j, (qF_leaves (nI p) r).2 51 j = if j = p then r.2 51 p - nI N else r.2 51 j := fun j => by rw [E, ua2, if_pos rfl, uA_n (by decide), b2 51 (by decide) (by decide) (by decide)]
  generalize qF_leaves (nI p) r = R at R1 R54 R2 R55 R56 R50 R51
  have n54b := jN_toInt b3
  have e51 : (r.2 51 p - nI N).toInt = (r.2 51 p).toInt - N := i_subE rfl (jI_t (by omega)) (by omega) (by omega)
  have n51 := jN_toInt (x := r.2 51 p - nI N) (by omega)
  -- where an entry of a queue comes from
  have src : ∀ p' k, p' < 2 → k < jN (R.2 51 p') → ∃ k0, k0 < jN (r.2 51 p') ∧ R.2 50 (30 * p' + k) = r.2 50 (30 * p' + k0) ∧ (if p' = p then k0 = N + k else k0 = k) := fun p' k hp' hk => by
    have b0 := A4 p'
    have nb0 := jN_toInt b0.1
    rw [R51] at hk
    rw [R50]
    by_cases e : p' = p
    · subst e
      rw [if_pos rfl] at hk
      exact ⟨N + k, by omega, f1 k (by omega), by rw [if_pos rfl]⟩
    · rw [if_neg e] at hk
      exact ⟨k, hk, f2 _ (by omega), by rw [if_neg e]⟩
  -- what left newly
  have new : ∀ i, jN (r.1 1554) ≤ i → i < jN (b.1 1554) → ∃ k' th, k' < jN (r.2 51 p) ∧ th < jN (r.1 1551) ∧ th < 1300 ∧ r.2 50 (30 * p + k') = nI th ∧ r.2 54 th = nI p ∧ jN (b.2 55 i) = th ∧ (r.1 1536).toInt + 1 ≤ (b.2 56 i).toInt ∧ (b.2 56 i).toInt ≤ (r.1 1536).toInt + 80 := fun i h1 h2 => by
    obtain ⟨k', y1, y2, y3, y4, y5, y6⟩ := b7 i h1 h2
    rcases q1 p k' hp (by omega) with h | ⟨th, z1, z2, z3, z4⟩
    · exact absurd h y4
    · exact ⟨k', th, by omega, z1, z2, z3, z4, by rw [y3, z3]; exact jN_nI (by omega), y5, y6⟩
  refine ⟨fun p' k hp' hk => ?_, ⟨fun k th hk e50 hth hth2 e52 => ?_, ?_, fun k hk e52 => ?_, ?_⟩, ⟨?_, fun k hk => ?_, jTK_c (R1 1572 (by decide)) (R2 63 (by decide) (by decide) (by decide) (by decide) (by decide)) d3, ?_, fun a ha e => ?_, ?_, ?_, ?_⟩, nS_c (fun g hg => R1 g (by revert hg; revert g; decide)) (fun x hx => R2 x (by revert hx; revert x; decide) (by revert hx; revert x; decide) (by revert hx; revert x; decide) (by revert hx; revert x; decide) (by revert hx; revert x; decide)) (fun hc => by rw [R2 91 (by decide) (by decide) (by decide) (by decide) (by decide)]; exact s1.2.2.2.2.1 hc) s1, ?_, ?_⟩
  · obtain ⟨k0, h1, h2, -⟩ := src p' k hp' hk
    rw [h2, R1 1551 (by decide), R2 54 (by decide) (by decide) (by decide) (by decide) (by decide)]
    exact q1 p' k0 hp' h1
  · obtain ⟨k0, h1, h2, h3⟩ := src 0 k (by decide) hk
    rw [Nat.mul_zero, Nat.zero_add, Nat.zero_add, e50] at h2
    rw [R1 1551 (by decide)] at hth
    rw [R2 52 (by decide) (by decide) (by decide) (by decide) (by decide)] at e52
    have hg := g1 k0 th h1 h2.symm hth hth2 e52
    rw [R1 1536 (by decide), R1 1580 (by decide)]
    rcases hD2 with e | ⟨e1, e2⟩
    · by_cases cp : 0 = p
      · rw [if_pos cp] at h3; omega
      · rw [if_neg cp] at h3; omega
    · rw [if_pos e1.symm] at h3
      have : 0 < N := hN2 (by rw [← e1] at h1; omega)
      omega
  · rw [R1 1551 (by decide), R2 52 (by decide) (by decide) (by decide) (by decide) (by decide), R2 54 (by decide) (by decide) (by decide) (by decide) (by decide)]; exact g2
  · rw [R54] at hk
    rw [R2 52 (by decide) (by decide) (by decide) (by decide) (by decide), R55] at e52
    rw [R56, R1 1580 (by decide)]
    by_cases c : k < jN (r.1 1554)
    · rw [(b6 k c).1] at e52
      rw [(b6 k c).2]
      exact g3 k c e52
    · obtain ⟨k', th, x1, x2, x3, x4, x5, x6, x7, x8⟩ := new k (by omega) hk
      rw [x6] at e52
      have h54 := g2 th x2 e52
      rw [x5] at h54
      have ep : p = 0 := jI_inj (by omega) (by omega) h54
      rw [ep, Nat.mul_zero, Nat.zero_add] at x4
      rw [ep] at x1
      have := g1 k' th x1 x4 x2 x3 e52
      omega
  · rw [R1 1559 (by decide), R2 57 (by decide) (by decide) (by decide) (by decide) (by decide), R2 60 (by decide) (by decide) (by decide) (by decide) (by decide), R1 1580 (by decide)]; exact g4
  · rw [R1 1551 (by decide), R1 1606 (by decide), R2 52 (by decide) (by decide) (by decide) (by decide) (by decide), R2 53 (by decide) (by decide) (by decide) (by decide) (by decide), R2 54 (by decide) (by decide) (by decide) (by decide) (by decide)]; exact d1
  · rw [R54] at hk
    rw [R55, R56, R1 1551 (by decide), R2 52 (by decide) (by decide) (by decide) (by decide) (by decide), R2 53 (by decide) (by decide) (by decide) (by decide) (by decide), R2 72 (by decide) (by decide) (by decide) (by decide) (by decide)]
    by_cases cc : k < jN (r.1 1554)
    · rw [(b6 k cc).1, (b6 k cc).2]
      exact d2 k cc
    · obtain ⟨k', th, x1, x2, x3, x4, x5, x6, x7, x8⟩ := new k (by omega) hk
      rw [x6]
      refine ⟨x2, fun _ j _ => ?_⟩
      have := (ri_72 I j).2
      omega
  · rw [R2 63 (by decide) (by decide) (by decide) (by decide) (by decide), R1 1606 (by decide), R2 72 (by decide) (by decide) (by decide) (by decide) (by decide), R1 1536 (by decide)]; exact d4
  · rw [R1 1559 (by decide)] at ha
    rw [R2 57 (by decide) (by decide) (by decide) (by decide) (by decide)] at e
    rw [R2 58 (by decide) (by decide) (by decide) (by decide) (by decide), R1 1561 (by decide), R2 60 (by decide) (by decide) (by decide) (by decide) (by decide)]
    exact ⟨(d5 a ha e).1, nTld_c (R2 61 (by decide) (by decide) (by decide) (by decide) (by decide)) (R1 1606 (by decide)) (R2 72 (by decide) (by decide) (by decide) (by decide) (by decide)) (d5 a ha e).2⟩
  · rw [R1 1606 (by decide), R2 78 (by decide) (by decide) (by decide) (by decide) (by decide)]; exact d6
  · rw [R1 1573 (by decide)]; exact d7
  · rw [R1 1568 (by decide)]; exact d8
  · have eA : nAr R = nAr r := by
      unfold nAr
      rw [R54, R56, R1 1536 (by decide)]
      have e1 : jN (b.1 1554) = jN (r.1 1554) + (jN (b.1 1554) - jN (r.1 1554)) := by omega
      rw [e1, rf_c_shift]
      have h2 : rf_c (fun k => decide ((b.2 56 k).toInt ≤ (r.1 1536).toInt)) (jN (r.1 1554)) = rf_c (fun k => decide ((r.2 56 k).toInt ≤ (r.1 1536).toInt)) (jN (r.1 1554)) := rf_c_eq _ (fun j hj => by rw [(b6 j hj).2])
      have h3 : ∀ m, m ≤ jN (b.1 1554) - jN (r.1 1554) → rf_c (fun j => decide ((b.2 56 (jN (r.1 1554) + j)).toInt ≤ (r.1 1536).toInt)) m = 0 := by
        intro m
        induction m with
        | zero => intro _; rfl
        | succ m ih =>
          intro hm
          show rf_c _ m + (if decide ((b.2 56 (jN (r.1 1554) + m)).toInt ≤ (r.1 1536).toInt) = true then 1 else 0) = 0
          obtain ⟨k', th, x1, x2, x3, x4, x5, x6, x7, x8⟩ := new (jN (r.1 1554) + m) (by omega) (by omega)
          rw [ih (by omega), decide_eq_false (show ¬ (b.2 56 (jN (r.1 1554) + m)).toInt ≤ (r.1 1536).toInt by omega)]
          rfl
      rw [h2, h3 _ (Nat.le_refl _), Nat.add_zero]
    unfold nC nFl at hC ⊢
    rw [eA, R1 1577 (by decide), R1 1581 (by decide), R1 1580 (by decide), R1 1579 (by decide), R1 1551 (by decide), R1 1606 (by decide), R1 1559 (by decide), R1 1574 (by decide), R1 1536 (by decide)]
    exact hC
  · obtain ⟨⟨x1, x2, x3, x4, x5⟩, x6⟩ := p1
    refine ⟨⟨by rw [R2 41 (by decide) (by decide) (by decide) (by decide) (by decide)]; exact x1, by rw [R2 42 (by decide) (by decide) (by decide) (by decide) (by decide)]; exact x2, by rw [R2 49 (by decide) (by decide) (by decide) (by decide) (by decide)]; exact x3, fun j => ?_, by rw [R1 1536 (by decide)]; exact x5⟩, by rw [R1 1584 (by decide)]; exact x6⟩
    rw [R51]
    by_cases e : j = p
    · rw [if_pos e]; omega
    · rw [if_neg e]; exact x4 j
theorem q_lvFr (A : jPA r) {p : Nat} (hp : p < 2) (h0 : 0 ≤ (r.1 1554).toInt) (h1 : (r.1 1554).toInt ≤ 990) : q_fr [1554] [48, 50, 51, 55, 56] r (qF_leaves (nI p) r) := by
  obtain ⟨N, b, f, -, -, E, ⟨b1, b2, -, -, -, -, -⟩, -, -⟩ := q_lvE A hp h0 h1
  rw [E]
  exact q_frua (by decide) (q_fruA (by decide) ⟨fun g hg => b1 g (fun e => hg (by rw [e]; decide)), fun x hx => b2 x (fun e => hx (by rw [e]; decide)) (fun e => hx (by rw [e]; decide)) (fun e => hx (by rw [e]; decide))⟩)
theorem rI_leaves (S : y_S n M) (I : rf_I (t + 60) (s + 60) (q + 60) z r.1 r.2) {x : Int32} (h : 0 ≤ x.toInt ∧ x.toInt ≤ 1) : rf_I (t + 60) (s + 60) (q + 60) z (qF_leaves x r).1 (qF_leaves x r).2 := qX_leaves (Q := fun M1 => rf_J n (t + 60) (s + 60) (q + 60) z M1 M1) (q_mkS S) q_mkR (t_X12_leaves (rI_J S I) h (fun _ J _ => J)) (fun _ _ J1 _ R1 e => by rw [e]; exact rI_of R1 J1)
end NPD
