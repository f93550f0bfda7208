/-! ===== THE LIKENESS: take-off, whole; the reference's loops over a packet's bytes ===== -/
section JOF
variable {n : Nat} {M M0 M1 M2 : z_Mem} {r r1 a b c : q_R} {TL CL : List Nat} {t s q z : Nat} {d : Int} {f g : Nat → Int32}
theorem j_off6 {s a m : Nat} (hs : s < 4) (ham : a + m ≤ 200) : ∀ k' k (M : z_Mem) (r : q_R), k + k' = m → JJ n M r TL CL → (∀ i, 0 ≤ (r.2 70 i).toInt ∧ (r.2 70 i).toInt + k' < 2000) → ∃ M0, JJ n M0 (uA r 70 (rO (r.2 70) (200 * s + (a + k)) k' 1)) TL CL ∧ cF_X9_takeOff_6 (n + (12 + 4 * s)) (nI a) (nI m) (nI (a + k)) M = z_sfi M0 1153 (n + (12 + 4 * s)) (if r.2 67 s < nI (a + m) then nI (a + m) else r.2 67 s) := by
  intro k'
  induction k' with
  | zero =>
    intro k M r hk J _
    have hB := cE_X9_takeOff_6 (n + (12 + 4 * s)) (nI a) (nI m) (nI (a + k)) M
    rw [jI_add (by omega), if_pos ((jI_le (by omega) (by omega)).mpr (by omega)), (j_lo J hs).1] at hB
    replace hB := hB.trans (q_ste rfl)
    refine ⟨M, ?_, cUr_X9_takeOff_6 hB⟩
    rw [rO_0, uA_id]; exact J
  | succ k' ih =>
    intro k M r hk J h01
    obtain ⟨M', g1, g2⟩ := j_off1 J hs (j := a + k) (by omega) (h01 _).1 (by have := (h01 (200 * s + (a + k))).2; omega)
    rw [cUl_X9_takeOff_6 (g1 (nI a) (nI m) (by rw [jI_add (by omega)]; exact fun h => absurd ((jI_le (by omega) (by omega)).mp h) (by omega)))]
    obtain ⟨M0, e1, e2⟩ := ih (k + 1) M' _ (by omega) g2 (fun i => by
      rw [ua2, if_pos rfl]
      have h := h01 i
      by_cases c : i = 200 * s + (a + k)
      · rw [if_pos c]
        have h' := h01 (200 * s + (a + k))
        rw [i_addE rfl (show (1 : Int32).toInt = 1 from rfl) (by omega) (by omega)]; omega
      · rw [if_neg c]; omega)
    rw [show a + (k + 1) = a + k + 1 from by omega] at e1 e2
    rw [show 200 * s + (a + k + 1) = 200 * s + (a + k) + 1 from by omega, uA_rO] at e1
    rw [ua_n (by decide)] at e2
    exact ⟨M0, e1, e2⟩
theorem j_offF (J : JJ n M r TL CL) {s a m : Nat} (hs : s < 4) (ham : a + m ≤ 200) (h01 : ∀ i, 0 ≤ (r.2 70 i).toInt ∧ (r.2 70 i).toInt < 1000) : ∃ M0, JJ n M0 (uA r 70 (rO (r.2 70) (200 * s + a) m 1)) TL CL ∧ cF_X9_takeOff (n + (12 + 4 * s)) (nI a) (nI m) M = z_sfi M0 1153 (n + (12 + 4 * s)) (if r.2 67 s < nI (a + m) then nI (a + m) else r.2 67 s) := by
  rw [cE_X9_takeOff, jI_max0 (by omega)]
  exact j_off6 hs ham m 0 M r (by omega) J (fun i => by have := h01 i; omega)
/-- more of a stream was sent -/
theorem JJ.sent (J : JJ n M r TL CL) {s : Nat} {v : Int32} (hs : s < 4) (hv : (r.2 67 s).toInt ≤ v.toInt) (hc : ∀ j : Nat, j < 200 → (r.2 67 s).toInt ≤ j → (j : Int) < v.toInt → ¬ r.2 70 (200 * s + j) = 0) : JJ n (z_sfi M 1153 (n + (12 + 4 * s)) v) (ua r 67 s v) TL CL := by
  obtain ⟨S, js, ja, X, P, Q, T, C⟩ := J
  have hn : ∀ x, x ≠ 67 → (ua r 67 s v).2 x = r.2 x := fun x hx => ua_n hx
  have fi : ∀ k y, k ≠ 1153 → z_fi (z_sfi M 1153 (n + (12 + 4 * s)) v) k y = z_fi M k y := fun k y h => by rw [zq_fi_sfi, if_neg h]
  have H : hF n M (z_sfi M 1153 (n + (12 + 4 * s)) v) := hF_sfi (by omega)
  refine ⟨S_sfi S, ?_, ja.congr (fun _ _ _ _ => rfl) (fun t ht => hn _ (by revert ht; revert t; decide)), ?_, P.congr H rfl rfl (fun t ht => hn _ (by revert ht; revert t; decide)), fun p hp => (Q p hp).congr H.m rfl rfl (fi _ _ (by decide)) rfl (by rw [hn 51 (by decide)]) (fun _ _ => by rw [hn 50 (by decide)]) (Nat.le_refl _) (fun y _ hy _ => by rw [hn y (by revert hy; revert y; decide)]), T.congr H.m rfl rfl (fi _ _ (by decide)) rfl (Nat.le_refl _) (Nat.le_refl _) (fun y _ hy _ => by rw [hn y (by revert hy; revert y; decide)]) (fun y _ hy _ => by rw [hn y (by revert hy; revert y; decide)]), C.congr H.m rfl (fi _ _ (by decide)) (Nat.le_refl _) (by rw [hn 61 (by decide)]; exact C.2.2.2.1) (Nat.le_refl _) (fun _ _ _ _ => by rw [hn 61 (by decide)]) (fun y _ hy _ => by rw [hn y (by revert hy; revert y; decide)])⟩
  · rcases jl4 hs with rfl | rfl | rfl | rfl
    · exact js.sa (by decide)
    · exact js.sa (by decide)
    · exact js.sa (by decide)
    · exact js.sa (by decide)
  · obtain ⟨y1, y2, y3, y4, y5, y6, y7, y8, y9, y10⟩ := X
    have l2 : ∀ p, j_fl (ua r 67 s v) p = j_fl r p := fun p => by unfold j_fl; rw [hn 71 (by decide), hn 76 (by decide)]
    refine ⟨fun p hp => ?_, ?_, ?_, fun s' hs' => ?_, fun s' hs' => ?_, fun p hp => ?_, ?_, fun p hp => ?_, fun p hp h => ?_, ?_⟩
    · rw [fi _ _ (by decide), hn 45 (by decide)]; exact y1 p hp
    · rw [fi _ _ (by decide)]; exact y2
    · rw [fi _ _ (by decide)]; exact y3
    · have e : rf_c (j_lost (ua r 67 s v) s') 200 = rf_c (j_lost r s') 200 := by
        refine rf_c_eq 200 (fun i hi => ?_)
        unfold j_lost
        rw [hn 69 (by decide), hn 70 (by decide), ua2, if_pos rfl]
        by_cases e : s' = s
        · subst e
          rw [if_pos rfl]
          by_cases c1 : (i : Int) < (r.2 67 s').toInt
          · have : (i : Int) < v.toInt := by omega
            simp only [c1, this, true_and]
          · by_cases c2 : (i : Int) < v.toInt
            · have h70 := hc i hi (by omega) c2
              simp only [c1, c2, h70, false_and, true_and, and_false]
            · simp only [c1, c2, false_and]
        · rw [if_neg e]
      rw [fi _ _ (by decide), e]; exact y4 s' hs'
    · rw [fi _ _ (by decide), hn 64 (by decide)]; exact y5 s' hs'
    · rw [fi _ _ (by decide), l2]; exact y6 p hp
    · rw [fi _ _ (by decide), hn 76 (by decide)]; exact y7
    · rw [fi _ _ (by decide), hn 99 (by decide)]; exact y8 p hp
    · rw [hn 100 (by decide)] at h
      rw [fi _ _ (by decide), fi _ _ (by decide), hn 103 (by decide), hn 104 (by decide)]; exact y9 p hp h
    · rw [fi _ _ (by decide)]; exact y10
theorem q_bix {sN a k : Nat} (h1 : sN < 4) (h2 : a + k < 2000) : (200 * nI sN + nI a + nI k).toNatClampNeg = 200 * sN + (a + k) := jN_of (by
  have e1 : (200 * nI sN).toInt = 200 * (sN : Int) := i_mulE (show (200 : Int32).toInt = 200 from rfl) (jI_t (by omega)) (by omega) (by omega)
  rw [i_addE (i_addE e1 (jI_t (k := a) (by omega)) (by omega) (by omega)) (jI_t (k := k) (by omega)) (by omega) (by omega)]; omega)
theorem q_lands9 {i a m sN : Nat} (hi : i < 400) (hsN : sN < 4) (ham : a + m ≤ 200) : ∀ k' k (r : q_R), k + k' = m → r.2 75 i = nI m → r.2 74 i = nI a → r.2 73 i = nI sN → qF_lands_9 (nI i) (nI k) r = uA r 70 (rO (r.2 70) (200 * sN + (a + k)) k' (-1)) := by
  have ei : (nI i).toNatClampNeg = i := jI_N (by omega)
  intro k'
  induction k' with
  | zero =>
    intro k r hk hm ha hs
    have hB := qE_lands_9 (nI i) (nI k) r
    rw [ei, hm, if_pos ((jI_le (by omega) (by omega)).mpr (by omega))] at hB
    rw [qUr_lands_9 hB, rO_0, uA_id]
  | succ k' ih =>
    intro k r hk hm ha hs
    have hB := qE_lands_9 (nI i) (nI k) r
    rw [ei, hm, if_neg (fun h => absurd ((jI_le (by omega) (by omega)).mp h) (by omega)), hs, ha, q_bix hsN (by omega)] at hB
    replace hB := hB.trans (q_ste rfl)
    replace hB := hB.trans (q_ste (j_inc (by omega)).symm)
    rw [qUl_lands_9 hB, ih (k + 1) _ (by omega) (by rw [ua_n (by decide)]; exact hm) (by rw [ua_n (by decide)]; exact ha) (by rw [ua_n (by decide)]; exact hs), ← uA_rO, Int32.sub_eq_add_neg]
    rfl
theorem q_h50 {i a m sN : Nat} {x2 : Int32} (hi : i < 400) (hsN : sN < 4) (ham : a + m ≤ 200) : ∀ k' k (r : q_R), k + k' = m → r.2 75 i = nI m → r.2 74 i = nI a → r.2 73 i = nI sN → qF_hearsOf_50 (nI i) x2 (nI k) r = qF_hearsOf_50 (nI i) x2 (nI m) (uA r 69 (rS (r.2 69) (200 * sN + (a + k)) k' 1)) := by
  have ei : (nI i).toNatClampNeg = i := jI_N (by omega)
  intro k'
  induction k' with
  | zero =>
    intro k r hk hm ha hs
    have : k = m := by omega
    rw [rS_0, uA_id, this]
  | succ k' ih =>
    intro k r hk hm ha hs
    have hB := qE_hearsOf_50 (nI i) x2 (nI k) r
    rw [ei, hm, if_neg (fun h => absurd ((jI_le (by omega) (by omega)).mp h) (by omega)), hs, ha, q_bix hsN (by omega)] at hB
    replace hB := hB.trans (q_ste rfl)
    replace hB := hB.trans (q_ste (j_inc (by omega)).symm)
    rw [qUl_hearsOf_50 hB, ih (k + 1) _ (by omega) (by rw [ua_n (by decide)]; exact hm) (by rw [ua_n (by decide)]; exact ha) (by rw [ua_n (by decide)]; exact hs), ← uA_rS]
    rfl
theorem q_s139 {a m sN : Nat} {x1 x6 : Int32} (hsN : sN < 4) (ham : a + m ≤ 200) : ∀ k' k (r : q_R), k + k' = m → qF_sends_139 x1 (nI sN) (nI a) (nI m) x6 (nI k) r = qF_puts x1 2 x6 (uf (uA r 70 (rO (r.2 70) (200 * sN + (a + k)) k' 1)) 1606 (r.1 1606 + 1)) := by
  intro k'
  induction k' with
  | zero =>
    intro k r hk
    have hB := qE_sends_139 x1 (nI sN) (nI a) (nI m) x6 (nI k) r
    rw [if_pos ((jI_le (by omega) (by omega)).mpr (by omega))] at hB
    replace hB := hB.trans (q_ste rfl)
    replace hB := hB.trans (q_ste rfl)
    rw [qUr_sends_139 hB, rO_0, uA_id]
  | succ k' ih =>
    intro k r hk
    have hB := qE_sends_139 x1 (nI sN) (nI a) (nI m) x6 (nI k) r
    rw [if_neg (fun h => absurd ((jI_le (by omega) (by omega)).mp h) (by omega)), q_bix hsN (by omega)] at hB
    replace hB := hB.trans (q_ste rfl)
    replace hB := hB.trans (q_ste (j_inc (by omega)).symm)
    rw [qUl_sends_139 hB, ih (k + 1) _ (by omega), ← uA_rO]
    rfl
end JOF
