/-! ===== THE LIKENESS: a queue lets all go that the rate tells ===== -/
section JLX
variable {n : Nat} {M M0 M1 M2 : z_Mem} {r r1 a b : q_R} {TL CL : List Nat} {t s q z : Nat} {d : Int}
def q_L1 (p k : Nat) (r : q_R) : q_R := if r.2 50 (30 * p + k) = -1 then r else q_tk p (r.2 50 (30 * p + k)) r
def q_LN (p : Nat) : Nat → Nat → q_R → q_R
  | _, 0, r => r
  | k, m + 1, r => q_LN p (k + 1) m (q_L1 p k r)
theorem q_tk1 {p : Nat} {th : Int32} (h1 : a.1 = b.1) (h2 : ∀ x, x ≠ 50 → x ≠ 51 → a.2 x = b.2 x) : (q_tk p th a).1 = (q_tk p th b).1 ∧ (∀ x, x ≠ 50 → x ≠ 51 → (q_tk p th a).2 x = (q_tk p th b).2 x) ∧ (q_tk p th a).2 50 = a.2 50 ∧ (q_tk p th a).2 51 = a.2 51 := by
  unfold q_tk
  rw [h2 48 (by decide) (by decide), h2 41 (by decide) (by decide), h2 49 (by decide) (by decide), h1]
  by_cases h : b.2 48 p ≤ 0
  · rw [if_pos h, if_pos h]
    refine ⟨?_, fun x g1 g2 => ?_, ?_, ?_⟩
    · funext g; rw [uf1, uf1, ua1, ua1, ua1, ua1, h1]
    · funext i
      rw [uf2, uf2, ua2, ua2, ua2, ua2, h2 x g1 g2]
    · rw [uf2, ua_n (by decide), ua_n (by decide)]
    · rw [uf2, ua_n (by decide), ua_n (by decide)]
  · rw [if_neg h, if_neg h]
    refine ⟨?_, fun x g1 g2 => ?_, ?_, ?_⟩
    · funext g; rw [uf1, uf1, ua1, ua1, ua1, ua1, ua1, ua1, h1]
    · funext i
      rw [uf2, uf2, ua2, ua2, ua2, ua2, ua2, ua2, h2 x g1 g2]
    · rw [uf2, ua_n (by decide), ua_n (by decide), ua_n (by decide)]
    · rw [uf2, ua_n (by decide), ua_n (by decide), ua_n (by decide)]
theorem q_tk5 {p : Nat} {th : Int32} : (q_tk p th b).2 50 = b.2 50 ∧ (q_tk p th b).2 51 = b.2 51 := (q_tk1 (a := b) (b := b) rfl (fun _ _ _ => rfl)).2.2
/-- k have left: what the queue is then, against the reference that has not moved it up -/
def q_W (p k : Nat) (a b : q_R) : Prop := a.1 = b.1 ∧ (∀ x, x ≠ 50 → x ≠ 51 → a.2 x = b.2 x) ∧ (∀ i, i ≠ p → a.2 51 i = b.2 51 i) ∧ a.2 51 p = b.2 51 p - nI k ∧ (∀ j, j + k < jN (b.2 51 p) → a.2 50 (30 * p + j) = b.2 50 (30 * p + (k + j))) ∧ (∀ i, ¬ (30 * p ≤ i ∧ i < 30 * p + 30) → a.2 50 i = b.2 50 i)
theorem q_Wstep {p k : Nat} (W : q_W p k a b) (hk : k < jN (b.2 51 p)) (h30 : jN (b.2 51 p) ≤ 30) (h0 : 0 ≤ (b.2 51 p).toInt) : q_W p (k + 1) (q_hd p a) (q_L1 p k b) := by
  obtain ⟨w1, w2, w3, w4, w5, w6⟩ := W
  have e0 : a.2 50 (30 * p) = b.2 50 (30 * p + k) := w5 0 (by omega)
  have s2 : ∀ x, x ≠ 50 → x ≠ 51 → (q_sh p a).2 x = b.2 x := fun x g h => by unfold q_sh; rw [ua_n h, uA_n g, w2 x g h]
  have s1 : (q_sh p a).1 = b.1 := w1
  have s51 : (q_sh p a).2 51 p = b.2 51 p - nI (k + 1) := by
    unfold q_sh; rw [ua_e, w4]
    have eb := jN_toInt h0
    have : b.2 51 p = nI (jN (b.2 51 p)) := (jI_jN h0).symm
    rw [this, jI_sub (by omega) (by omega), jI_1, jI_sub (by show 1 ≤ _; omega) (by omega), jI_sub (by omega) (by omega), Nat.sub_sub]
  have s51n : ∀ i, i ≠ p → (q_sh p a).2 51 i = b.2 51 i := fun i h => by unfold q_sh; rw [ua_i h, uA_n (by decide), w3 i h]
  have s50 : ∀ i, (q_sh p a).2 50 i = if 30 * p ≤ i ∧ i < 30 * p + 29 then a.2 50 (i + 1) else a.2 50 i := fun i => by unfold q_sh; rw [ua_n (by decide), uA_e]
  have m5 : ∀ j, j + (k + 1) < jN (b.2 51 p) → (q_sh p a).2 50 (30 * p + j) = b.2 50 (30 * p + (k + 1 + j)) := fun j hj => by
    rw [s50, if_pos ⟨by omega, by omega⟩, Nat.add_assoc, w5 (j + 1) (by omega), show k + (j + 1) = k + 1 + j from by omega]
  have m6 : ∀ i, ¬ (30 * p ≤ i ∧ i < 30 * p + 30) → (q_sh p a).2 50 i = b.2 50 i := fun i h => by
    rw [s50, if_neg (fun g => h ⟨g.1, by omega⟩), w6 i h]
  unfold q_hd q_L1
  rw [e0]
  by_cases h : b.2 50 (30 * p + k) = -1
  · rw [if_pos h, if_pos h]
    exact ⟨s1, s2, s51n, s51, m5, m6⟩
  · rw [if_neg h, if_neg h]
    obtain ⟨g1, g2, g3, g4⟩ := q_tk1 (p := p) (th := b.2 50 (30 * p + k)) s1 s2
    obtain ⟨g5, g6⟩ := q_tk5 (p := p) (th := b.2 50 (30 * p + k)) (b := b)
    refine ⟨g1, g2, fun i h => ?_, ?_, fun j hj => ?_, fun i h => ?_⟩
    · rw [g4, g6]; exact s51n i h
    · rw [g4, g6]; exact s51
    · rw [g6] at hj; rw [g3, g5]; exact m5 j hj
    · rw [g3, g5]; exact m6 i h
theorem q_30 {p k : Nat} (hp : p < 2) (hk : k < 2000) : (30 * nI p + nI k).toNatClampNeg = 30 * p + k := jN_of (by rw [i_addE (i_mulE (show (30 : Int32).toInt = 30 from rfl) (jI_t (show p < 2147483648 by omega)) (by omega) (by omega)) (jI_t (show k < 2147483648 by omega)) (by omega) (by omega)]; omega)
theorem q_lv33 {p N : Nat} (hp : p < 2) (hN : N ≤ 30) : ∀ m k (r : q_R), k + m = N → qF_leaves_33 (nI p) (nI N) (nI k) r = qF_leaves_157 (nI p) (nI N) (nI N) (q_LN p k m r) := by
  have ep : (nI p).toNatClampNeg = p := jN_nI (by omega)
  intro m
  induction m with
  | zero =>
    intro k r h
    have hB := qE_leaves_33 (nI p) (nI N) (nI k) r
    rw [if_pos ((jI_le (by omega) (by omega)).mpr (by omega))] at hB
    exact qUr_leaves_33 hB
  | succ m ih =>
    intro k r h
    have hB := qE_leaves_33 (nI p) (nI N) (nI k) r
    rw [if_neg (fun g => absurd ((jI_le (by omega) (by omega)).mp g) (by omega)), q_30 hp (by omega), ep] at hB
    replace hB := hB.trans (q_ste rfl)
    have e1 : nI k + 1 = nI (k + 1) := by rw [jI_1, jI_add (by show k + 1 < _; omega)]
    have h149 : ∀ r', qF_leaves_149 (nI p) (nI N) (nI k) r' = .inl (nI p, nI N, nI (k + 1), r') := fun r' => by rw [qE_leaves_149]; exact q_ste e1.symm
    have key : qB_leaves_33 (nI p) (nI N) (nI k) r = .inl (nI p, nI N, nI (k + 1), q_L1 p k r) := by
      unfold q_L1
      by_cases c : r.2 50 (30 * p + k) = -1
      · rw [if_pos c] at hB ⊢
        rw [h149] at hB; exact hB
      · rw [if_neg c] at hB ⊢
        unfold q_tk
        by_cases c2 : r.2 48 p ≤ 0
        · rw [if_pos c2] at hB ⊢
          rw [qE_leaves_71, if_pos rfl, ep, qE_leaves_90, ep] at hB
          have e0 : ua r 48 p (r.2 48 p - 0) = r := ua_id (by rw [Int32.sub_zero])
          replace hB := hB.trans (q_ste (b := r) e0.symm)
          replace hB := hB.trans (q_ste rfl)
          rw [if_pos rfl, qE_leaves_137] at hB
          replace hB := hB.trans (q_ste rfl)
          replace hB := hB.trans (q_ste rfl)
          rw [h149] at hB
          exact hB
        · rw [if_neg c2] at hB ⊢
          rw [qE_leaves_71, if_neg (by decide), ep, qE_leaves_90, ep] at hB
          replace hB := hB.trans (q_ste rfl)
          replace hB := hB.trans (q_ste rfl)
          rw [if_neg (by decide), qE_leaves_137] at hB
          replace hB := hB.trans (q_ste rfl)
          replace hB := hB.trans (q_ste rfl)
          rw [h149] at hB
          exact hB
    rw [qUl_leaves_33 key]
    exact ih (k + 1) _ (by omega)
/-- the queue moves up -/
theorem q_lv157 {p N Q : Nat} (hp : p < 2) (hQ : Q ≤ 30) (hN : N ≤ Q) : ∀ m k (r : q_R), r.2 51 p = nI Q → N ≤ k → k + m = Q → ∃ f : Nat → Int32, qF_leaves_157 (nI p) (nI N) (nI k) r = ua (uA r 50 f) 51 p (r.2 51 p - nI N) ∧ (∀ j, k ≤ N + j → N + j < Q → f (30 * p + j) = r.2 50 (30 * p + (N + j))) ∧ (∀ i, (i + N < 30 * p + k ∨ 30 * p + Q ≤ i + N) → f i = r.2 50 i) := by
  have ep : (nI p).toNatClampNeg = p := jN_nI (by omega)
  intro m
  induction m with
  | zero =>
    intro k r h51 hk h
    have hB := qE_leaves_157 (nI p) (nI N) (nI k) r
    rw [ep, h51, if_pos ((jI_le (by omega) (by omega)).mpr (by omega))] at hB
    replace hB := hB.trans (q_ste rfl)
    refine ⟨r.2 50, ?_, fun j g1 g2 => by omega, fun i _ => rfl⟩
    rw [qUr_leaves_157 hB, h51]
    refine Prod.ext rfl (funext fun x => ?_)
    by_cases hx : x = 51
    · subst hx; funext i; rw [ua2, ua2, uA_n (by decide)]
    · rw [ua_n hx, ua_n hx]
      by_cases h5 : x = 50
      · subst h5; rw [uA_e]
      · rw [uA_n h5]
  | succ m ih =>
    intro k r h51 hk h
    have hB := qE_leaves_157 (nI p) (nI N) (nI k) r
    rw [ep, h51, if_neg (fun g => absurd ((jI_le (by omega) (by omega)).mp g) (by omega)), q_30 hp (by omega)] at hB
    have e2 : (30 * nI p + nI k - nI N).toNatClampNeg = 30 * p + k - N := by
      have e3 : (30 * nI p + nI k).toInt = ((30 * p + k : Nat) : Int) := by rw [i_addE (i_mulE (show (30 : Int32).toInt = 30 from rfl) (jI_t (show p < 2147483648 by omega)) (by omega) (by omega)) (jI_t (show k < 2147483648 by omega)) (by omega) (by omega)]; omega
      refine jN_of ?_
      rw [i_subE e3 (jI_t (show N < 2147483648 by omega)) (by omega) (by omega)]; omega
    rw [e2] at hB
    replace hB := hB.trans (q_ste rfl)
    have e1 : nI k + 1 = nI (k + 1) := by rw [jI_1, jI_add (by show k + 1 < _; omega)]
    replace hB := hB.trans (q_ste (b := nI (k + 1)) e1.symm)
    obtain ⟨f, g1, g2, g3⟩ := ih (k + 1) (ua r 50 (30 * p + k - N) (r.2 50 (30 * p + k))) (by rw [ua_n (by decide)]; exact h51) (by omega) (by omega)
    refine ⟨f, ?_, fun j h1 h2 => ?_, fun i hi => ?_⟩
    · rw [qUl_leaves_157 hB, g1, ua_n (by decide)]
      refine Prod.ext rfl (funext fun x => ?_)
      by_cases hx : x = 51
      · subst hx; funext i; rw [ua2, ua2, uA_n (by decide), uA_n (by decide), ua_n (by decide)]
      · rw [ua_n hx, ua_n hx]
        by_cases h5 : x = 50
        · subst h5; rw [uA_e, uA_e]
        · rw [uA_n h5, uA_n h5, ua_n h5]
    · by_cases hj : k + 1 ≤ N + j
      · rw [g2 j hj h2, ua_i (by omega)]
      · have e : k = N + j := by omega
        rw [g3 (30 * p + j) (Or.inl (by omega)), ua2, if_pos rfl, if_pos (by omega), e]
    · rcases hi with hi | hi
      · rw [g3 i (Or.inl (by omega)), ua_i (by omega)]
      · rw [g3 i (Or.inr hi), ua_i (by omega)]
/-- garbage behind a queue doesn't matter -/
theorem JJ.q50 (J : JJ n M a TL CL) (h1 : b.1 = a.1) (h2 : ∀ x, x ≠ 50 → b.2 x = a.2 x) (h3 : ∀ p k, p < 2 → k < jN (a.2 51 p) → b.2 50 (30 * p + k) = a.2 50 (30 * p + k)) : JJ n M b TL CL := by
  obtain ⟨S, js, ja, X, P, Q, T, C⟩ := J
  refine ⟨S, js.congr (fun _ _ => rfl) (fun t ht => ?_), ja.congr (fun _ _ _ _ => rfl) (fun t ht => h2 _ (by revert ht; revert t; decide)), X.congr (fun _ _ => rfl) (fun _ _ => by rw [h1]) (fun x hx => h2 x (by revert hx; revert x; decide)), P.congr hF_rf rfl (by rw [h1]) (fun t ht => h2 _ (by revert ht; revert t; decide)), fun p hp => (Q p hp).congr hF_rf.m rfl rfl rfl (by rw [h1]) (by rw [h2 51 (by decide)]) (fun k hk => h3 p k hp hk) (by rw [h1]; exact Nat.le_refl _) (fun x _ hx _ => by rw [h2 x (by revert hx; revert x; decide)]), T.congr hF_rf.m rfl rfl rfl (by rw [h1]) (by rw [h1]; exact Nat.le_refl _) (by rw [h1]; exact Nat.le_refl _) (fun x _ hx _ => by rw [h2 x (by revert hx; revert x; decide)]) (fun x _ hx _ => by rw [h2 x (by revert hx; revert x; decide)]), C.congr hF_rf.m rfl rfl (by rw [h1]; exact Nat.le_refl _) (by rw [h1, h2 61 (by decide)]; exact C.2.2.2.1) (by rw [h1]; exact Nat.le_refl _) (fun _ _ _ _ => by rw [h2 61 (by decide)]) (fun x _ hx _ => by rw [h2 x (by revert hx; revert x; decide)])⟩
  have : t.2.2.1 ≠ 50 := by revert ht; revert t; decide
  unfold j_loc
  rw [j_fve h1, h2 _ this]
end JLX
