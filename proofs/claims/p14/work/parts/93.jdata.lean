/-! ===== THE LIKENESS: a packet of data comes to the server ===== -/
section JDA
variable {n : Nat} {M M0 M1 M2 : z_Mem} {r r1 : q_R} {TL CL : List Nat} {t s q z : Nat} {d : Int} {f g : Nat → Int32}
/-- rows of the server: tickets used, packets taken -/
theorem JJ.srow (J : JJ n M r TL CL) {a x i : Nat} {v : Int32} (h : (a = 29 ∧ x = 62 ∧ i < 10) ∨ (a = 30 ∧ x = 63 ∧ i < 400)) (e : M1 = z_sai M (n + a) i v) : JJ n M1 (ua r x i v) TL CL := by
  subst e
  have ha : a = 29 ∨ a = 30 := by omega
  have hx : x = 62 ∨ x = 63 := by omega
  have hn : ∀ y, y ≠ 62 → y ≠ 63 → (ua r x i v).2 y = r.2 y := fun y h1 h2 => ua_n (by omega)
  obtain ⟨S, js, ja, X, P, Q, T, C⟩ := J
  have H : hF n M (z_sai M (n + a) i v) := hF_sai (by omega)
  refine ⟨S_sai S, js.congr (fun _ _ => rfl) (fun t ht => ?_), fun t ht j hj => ?_, X.congr (fun _ _ => rfl) (fun _ _ => rfl) (fun y hy => hn y (by revert hy; revert y; decide) (by revert hy; revert y; decide)), P.congr H rfl rfl (fun t ht => hn _ (by revert ht; revert t; decide) (by revert ht; revert t; decide)), fun p hp => (Q p hp).congr H.m rfl rfl rfl rfl (by rw [hn 51 (by decide) (by decide)]) (fun _ _ => by rw [hn 50 (by decide) (by decide)]) (Nat.le_refl _) (fun y _ hy _ => by rw [hn y (by revert hy; revert y; decide) (by revert hy; revert y; decide)]), T.congr H.m rfl rfl rfl rfl (Nat.le_refl _) (Nat.le_refl _) (fun y _ hy _ => by rw [hn y (by revert hy; revert y; decide) (by revert hy; revert y; decide)]) (fun y _ hy _ => by rw [hn y (by revert hy; revert y; decide) (by revert hy; revert y; decide)]), C.congr H.m rfl rfl (Nat.le_refl _) (by rw [hn 61 (by decide) (by decide)]; exact C.2.2.2.1) (Nat.le_refl _) (fun _ _ _ _ => by rw [hn 61 (by decide) (by decide)]) (fun y _ hy _ => by rw [hn y (by revert hy; revert y; decide) (by revert hy; revert y; decide)])⟩
  · have h1 : t.2.2.1 ≠ 62 ∧ t.2.2.1 ≠ 63 := by revert ht; revert t; decide
    unfold j_loc
    by_cases c : t.2.2.1 = 0
    · rw [if_pos c, if_pos c]; rfl
    · rw [if_neg c, if_neg c, hn _ h1.1 h1.2]
  · have hJ := ja t ht j hj
    have hR : ∀ t, t ∈ jR → (t.1 = 29 ∧ t.2.2.1 = 62 ∧ t.2.2.2 = 0) ∨ (t.1 = 30 ∧ t.2.2.1 = 63 ∧ t.2.2.2 = 0) ∨ (t.1 ≠ 29 ∧ t.1 ≠ 30 ∧ t.2.2.1 ≠ 62 ∧ t.2.2.1 ≠ 63) := by decide
    rw [zq_ai_sai, ua2]
    rcases hR t ht with ⟨b1, b2, b3⟩ | ⟨b1, b2, b3⟩ | ⟨b1, b2, b3, b4⟩
    · rw [b1, b2, b3, Nat.zero_add] at hJ ⊢
      by_cases c : a = 29
      · have : x = 62 := by omega
        rw [if_pos (by omega), if_pos this.symm]
        by_cases c2 : j = i
        · rw [if_pos c2, if_pos c2]
        · rw [if_neg c2, if_neg c2]; exact hJ
      · rw [if_neg (by omega), if_neg (by omega)]; exact hJ
    · rw [b1, b2, b3, Nat.zero_add] at hJ ⊢
      by_cases c : a = 30
      · have : x = 63 := by omega
        rw [if_pos (by omega), if_pos this.symm]
        by_cases c2 : j = i
        · rw [if_pos c2, if_pos c2]
        · rw [if_neg c2, if_neg c2]; exact hJ
      · rw [if_neg (by omega), if_neg (by omega)]; exact hJ
    · rw [if_neg (by omega), if_neg (by omega)]; exact hJ
/-- the server's keys -/
theorem JJ.keys (J : JJ n M r TL CL) {v1 v2 : Int32} (e : M1 = z_sfi (z_sfi (z_sfi M 1031 (n + 28) v1) 1032 (n + 28) (r.1 1536 + 8)) 1030 (n + 28) v2) : JJ n M1 (uf (uf (uf r 1567 v1) 1566 v2) 1568 (r.1 1536)) TL CL := by
  subst e
  obtain ⟨S, js, ja, X, P, Q, T, C⟩ := J
  have w : ∀ k, k ≠ 1567 → k ≠ 1566 → k ≠ 1568 → (uf (uf (uf r 1567 v1) 1566 v2) 1568 (r.1 1536)).1 k = r.1 k := fun k a b c => by rw [uf_n c, uf_n b, uf_n a]
  have w2 : (uf (uf (uf r 1567 v1) 1566 v2) 1568 (r.1 1536)).2 = r.2 := rfl
  have fi : ∀ k c, ¬ (k = 1031 ∧ c = 28) → ¬ (k = 1032 ∧ c = 28) → ¬ (k = 1030 ∧ c = 28) → z_fi (z_sfi (z_sfi (z_sfi M 1031 (n + 28) v1) 1032 (n + 28) (r.1 1536 + 8)) 1030 (n + 28) v2) k (n + c) = z_fi M k (n + c) := fun k c a b e => by rw [jfi e, jfi b, jfi a]
  have H : hF n M (z_sfi (z_sfi (z_sfi M 1031 (n + 28) v1) 1032 (n + 28) (r.1 1536 + 8)) 1030 (n + 28) v2) := hF_tr (hF_tr (hF_sfi (by omega)) (hF_sfi (by omega))) (hF_sfi (by omega))
  refine ⟨S_sfi (S_sfi (S_sfi S)), ?_, ja.congr (fun _ _ _ _ => rfl) (fun _ _ => rfl), ?_, P.congr H rfl (w _ (by decide) (by decide) (by decide)) (fun _ _ => rfl), fun p hp => (Q p hp).congr H.m rfl rfl (fi _ _ (by omega) (by omega) (by omega)) (w _ (by decide) (by decide) (by decide)) rfl (fun _ _ => rfl) (by rw [w _ (by decide) (by decide) (by decide)]; exact Nat.le_refl _) (fun _ _ _ _ => rfl), T.congr H.m rfl rfl (fi _ _ (by omega) (by omega) (by omega)) (w _ (by decide) (by decide) (by decide)) (by rw [w _ (by decide) (by decide) (by decide)]; exact Nat.le_refl _) (by rw [w _ (by decide) (by decide) (by decide)]; exact Nat.le_refl _) (fun _ _ _ _ => rfl) (fun _ _ _ _ => rfl), C.congr H.m rfl (fi _ _ (by omega) (by omega) (by omega)) (by rw [w _ (by decide) (by decide) (by decide)]; exact Nat.le_refl _) (by rw [w _ (by decide) (by decide) (by decide)]; exact C.2.2.2.1) (by rw [w _ (by decide) (by decide) (by decide)]; exact Nat.le_refl _) (fun _ _ _ _ => rfl) (fun _ _ _ _ => rfl)⟩
  · exact JS.rf (JS.sf (JS.fc (JS.sf js (j := 1567) (by decide)) (by decide)) (j := 1566) (by decide)) (by decide)
  · obtain ⟨y1, y2, y3, y4, y5, y6, y7, y8, y9, y10⟩ := X
    have l : ∀ s', j_lost (uf (uf (uf r 1567 v1) 1566 v2) 1568 (r.1 1536)) s' = j_lost r s' := fun _ => rfl
    have l2 : ∀ p, j_fl (uf (uf (uf r 1567 v1) 1566 v2) 1568 (r.1 1536)) p = j_fl r p := fun _ => rfl
    have w6 := w 1606 (by decide) (by decide) (by decide)
    refine ⟨fun p hp => ?_, fun h => ?_, fun _ => ?_, fun s' hs' => ?_, fun s' hs' => ?_, fun p hp => ?_, ?_, fun p hp => ?_, fun p hp h => ?_, ?_⟩
    · rw [fi _ _ (by omega) (by omega) (by omega), w2]; exact y1 p hp
    · rw [fi _ _ (by omega) (by omega) (by omega), w 1582 (by decide) (by decide) (by decide)]; rw [w 1577 (by decide) (by decide) (by decide)] at h; exact y2 h
    · rw [uf_e, zq_fi_sfi, if_neg (by decide), zq_fi_sfi, if_pos rfl, if_pos rfl]
    · rw [fi _ _ (by omega) (by omega) (by omega), l]; exact y4 s' hs'
    · obtain ⟨g2, b1, b2, b3, b4⟩ := y5 s' hs'
      exact ⟨g2, b1, by rw [fi _ _ (by omega) (by omega) (by omega)]; exact b2, by rw [w2]; exact b3, by rw [w2]; exact b4⟩
    · rw [fi _ _ (by omega) (by omega) (by omega), l2, w6]; exact y6 p hp
    · rw [fi _ _ (by omega) (by omega) (by omega), w6, w2]; exact y7
    · rw [fi _ _ (by omega) (by omega) (by omega), w2]; exact y8 p hp
    · rw [fi _ _ (by omega) (by omega) (by omega), fi _ _ (by omega) (by omega) (by omega), w2]; rw [w2] at h; exact y9 p hp h
    · rw [fi _ _ (by omega) (by omega) (by omega)]; exact y10
theorem q_tk138 {i a m sN : Nat} (hm : r.2 75 i = nI m) (ha : r.2 74 i = nI a) (hs : r.2 73 i = nI sN) (hi : i < 400) (hsN : sN < 4) (ham : a + m ≤ 200) : ∀ k' k, k + k' = m → qF_takes_138 (nI i) (nI k) (uA r 64 (rS (r.2 64) (200 * sN + a) k 1)) = (if nI i = r.1 1572 + 1 then qF_takes_194 (nI i) 1 (uA r 64 (rS (r.2 64) (200 * sN + a) m 1)) else qF_takes_194 (nI i) 0 (uA r 64 (rS (r.2 64) (200 * sN + a) m 1))) := by
  intro k'
  induction k' with
  | zero =>
    intro k hk
    have : k = m := by omega
    subst this
    have hB := qE_takes_138 (nI i) (nI k) (uA r 64 (rS (r.2 64) (200 * sN + a) k 1))
    rw [jI_N (by omega), uA_n (by decide), hm, if_pos ((jI_le (by omega) (by omega)).mpr (Nat.le_refl _))] at hB
    have e : (uA r 64 (rS (r.2 64) (200 * sN + a) k 1)).1 = r.1 := rfl
    rw [e] at hB
    by_cases c : nI i = r.1 1572 + 1
    · rw [if_pos c] at hB ⊢; exact qUr_takes_138 hB
    · rw [if_neg c] at hB ⊢; exact qUr_takes_138 hB
  | succ k' ih =>
    intro k hk
    have hB := qE_takes_138 (nI i) (nI k) (uA r 64 (rS (r.2 64) (200 * sN + a) k 1))
    rw [jI_N (by omega), uA_n (by decide), hm, if_neg (fun h => absurd ((jI_le (by omega) (by omega)).mp h) (by omega)), uA_n (by decide), hs, uA_n (by decide), ha] at hB
    have ei : (200 * nI sN + nI a + nI k).toNatClampNeg = 200 * sN + a + k := jN_of (by
      have e1 : (200 * nI sN).toInt = 200 * (sN : Int) := i_mulE (show (200 : Int32).toInt = 200 from rfl) (jI_t (by omega)) (by omega) (by omega)
      rw [i_addE (i_addE e1 (jI_t (k := a) (by omega)) (by omega) (by omega)) (jI_t (k := k) (by omega)) (by omega) (by omega)]; omega)
    rw [ei, uA_ua, rS_s] at hB
    replace hB := hB.trans (q_ste rfl)
    replace hB := hB.trans (q_ste (b := nI (k + 1)) (by rw [jI_1, jI_add (by show k + 1 < _; omega)]))
    rw [qUl_takes_138 hB]
    exact ih (k + 1) (by omega)
end JDA
