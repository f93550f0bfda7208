/-! ===== THE LIKENESS: both queues let go ===== -/
section JLY
variable {n : Nat} {M M0 M1 M2 : z_Mem} {r r1 a b : q_R} {TL CL : List Nat} {t s q z : Nat} {d : Int}
theorem q_tkr {p : Nat} {th : Int32} : (∀ x, x ≠ 48 → x ≠ 55 → x ≠ 56 → (q_tk p th b).2 x = b.2 x) ∧ (∀ g, g ≠ 1554 → (q_tk p th b).1 g = b.1 g) ∧ (q_tk p th b).1 1554 = b.1 1554 + 1 := by
  unfold q_tk
  by_cases h : b.2 48 p ≤ 0
  · rw [if_pos h]
    refine ⟨fun x g1 g2 g3 => ?_, fun g hg => ?_, uf_e⟩
    · rw [uf2, ua_n g3, ua_n g2]
    · rw [uf_n hg]; rfl
  · rw [if_neg h]
    refine ⟨fun x g1 g2 g3 => ?_, fun g hg => ?_, uf_e⟩
    · rw [uf2, ua_n g3, ua_n g2, ua_n g1]
    · rw [uf_n hg]; rfl
theorem q_L1r {p k : Nat} : (∀ x, x ≠ 48 → x ≠ 55 → x ≠ 56 → (q_L1 p k b).2 x = b.2 x) ∧ (∀ g, g ≠ 1554 → (q_L1 p k b).1 g = b.1 g) ∧ ((q_L1 p k b).1 1554 = b.1 1554 ∨ (q_L1 p k b).1 1554 = b.1 1554 + 1) := by
  unfold q_L1
  by_cases h : b.2 50 (30 * p + k) = -1
  · rw [if_pos h]; exact ⟨fun _ _ _ _ => rfl, fun _ _ => rfl, Or.inl rfl⟩
  · rw [if_neg h]
    obtain ⟨g1, g2, g3⟩ := q_tkr (p := p) (th := b.2 50 (30 * p + k)) (b := b)
    exact ⟨g1, g2, Or.inr g3⟩
theorem q_LNr {p : Nat} : ∀ m k (b : q_R), (∀ x, x ≠ 48 → x ≠ 55 → x ≠ 56 → (q_LN p k m b).2 x = b.2 x) ∧ (∀ g, g ≠ 1554 → (q_LN p k m b).1 g = b.1 g) := by
  intro m
  induction m with
  | zero => intro k b; exact ⟨fun _ _ _ _ => rfl, fun _ _ => rfl⟩
  | succ m ih =>
    intro k b
    obtain ⟨g1, g2⟩ := ih (k + 1) (q_L1 p k b)
    obtain ⟨h1, h2, -⟩ := q_L1r (p := p) (k := k) (b := b)
    exact ⟨fun x a c e => (g1 x a c e).trans (h1 x a c e), fun g a => (g2 g a).trans (h2 g a)⟩
theorem j_laneL {p N : Nat} (hp : p < 2) : ∀ m k (M : z_Mem) (a b : q_R), k + m = N → q_W p k a b → JJ n M a (pS d a) CL → jPA b → ((b.2 42 p).toInt = N ∨ ((N : Int) ≤ (b.2 42 p).toInt ∧ jN (b.2 51 p) = N)) → N ≤ jN (b.2 51 p) → d ≤ (b.1 1536).toInt + 1 → 0 ≤ (b.1 1554).toInt → (b.1 1554).toInt + m < 1024 → ∃ a', JJ n (cF_X5_letLeaveLane_2 (n + 1) (some (n + (2 + 2 * p))) (nI k) M) a' (pS d a') CL ∧ q_W p N a' (q_LN p k m b) := by
  intro m
  induction m with
  | zero =>
    intro k M a b h W J A hN hQ hd h0 h1
    have L := j_lane J hp
    obtain ⟨A1, A2, A3, A4, A5⟩ := A
    have a2 := A2 p hp
    have a4 := A4 p
    have e4 := jN_toInt a4.1
    have hB := cE_X5_letLeaveLane_2 (n + 1) (some (n + (2 + 2 * p))) (nI k) M
    replace hB := hB.trans (q_ste (b := n + (2 + 2 * p)) rfl)
    obtain ⟨w1, w2, w3, w4, w5, w6⟩ := W
    rw [L.2.1, w2 42 (by decide) (by decide), L.2.2.2.2.2.2.2.2.1, w4] at hB
    have hk : k = N := by omega
    subst hk
    have hB2 : cB_X5_letLeaveLane_2 (n + 1) (some (n + (2 + 2 * p))) (nI k) M = .inr M := by
      by_cases c : b.2 42 p ≤ nI k
      · rw [if_pos c] at hB; exact hB
      · rw [if_neg c] at hB
        have c2 := i_nle c rfl (jI_t (by omega))
        have : jN (b.2 51 p) = k := by rcases hN with g | g <;> omega
        rw [if_pos] at hB
        · exact hB
        · rw [Int32.le_iff_toInt_le, i_subE rfl (jI_t (k := k) (by omega)) (by omega) (by omega), show (0 : Int32).toInt = 0 from rfl]; omega
    rw [cUr_X5_letLeaveLane_2 hB2]
    exact ⟨a, J, w1, w2, w3, w4, w5, w6⟩
  | succ m ih =>
    intro k M a b h W J A hN hQ hd h0 h1
    obtain ⟨A1, A2, A3, A4, A5⟩ := A
    have a2 := A2 p hp
    have a4 := A4 p
    have e4 := jN_toInt a4.1
    have Ws := q_Wstep W (by omega) (by omega) a4.1
    obtain ⟨w1, w2, w3, w4, w5, w6⟩ := W
    have e51 : (a.2 51 p).toInt = (b.2 51 p).toInt - k := by rw [w4]; exact i_subE rfl (jI_t (by omega)) (by omega) (by omega)
    have Aa : jPA a := ⟨fun i hi => by rw [w2 41 (by decide) (by decide)]; exact A1 i hi, fun i hi => by rw [w2 42 (by decide) (by decide)]; exact A2 i hi, fun i hi => by rw [w2 49 (by decide) (by decide)]; exact A3 i hi, fun i => by
      by_cases hi : i = p
      · subst hi; omega
      · rw [w3 i hi]; exact A4 i, by rw [w1]; exact A5⟩
    obtain ⟨M', g1, g2⟩ := j_hd (x2 := nI k) J Aa hp (by omega) (by rw [w2 42 (by decide) (by decide)]; intro c; have := i_le c rfl (jI_t (k := k) (by omega)); rcases hN with g | g <;> omega) (by rw [w1]; exact hd) (by rw [w1]; exact h0) (by rw [w1]; omega)
    have e1 : nI k + 1 = nI (k + 1) := by rw [jI_1, jI_add (by show k + 1 < _; omega)]
    rw [e1] at g1
    rw [cUl_X5_letLeaveLane_2 g1]
    obtain ⟨l1, l2, l3⟩ := q_L1r (p := p) (k := k) (b := b)
    have l4 : 0 ≤ ((q_L1 p k b).1 1554).toInt ∧ ((q_L1 p k b).1 1554).toInt ≤ (b.1 1554).toInt + 1 := by
      rcases l3 with e | e
      · rw [e]; omega
      · rw [e, i_addE rfl (show (1 : Int32).toInt = 1 from rfl) (by omega) (by omega)]; omega
    exact ih (k + 1) M' (q_hd p a) (q_L1 p k b) (by omega) Ws g2 ⟨fun i hi => by rw [l1 41 (by decide) (by decide) (by decide)]; exact A1 i hi, fun i hi => by rw [l1 42 (by decide) (by decide) (by decide)]; exact A2 i hi, fun i hi => by rw [l1 49 (by decide) (by decide) (by decide)]; exact A3 i hi, fun i => by rw [l1 51 (by decide) (by decide) (by decide)]; exact A4 i, by rw [l2 1536 (by decide)]; exact A5⟩ (by rw [l1 42 (by decide) (by decide) (by decide), l1 51 (by decide) (by decide) (by decide)]; exact hN) (by rw [l1 51 (by decide) (by decide) (by decide)]; exact hQ) (by rw [l2 1536 (by decide)]; exact hd) l4.1 (by omega)
theorem j_leaveLane (J : JJ n M r (pS d r) CL) (A : jPA r) {p : Nat} (hp : p < 2) (hd : d ≤ (r.1 1536).toInt + 1) (h0 : 0 ≤ (r.1 1554).toInt) (h1 : (r.1 1554).toInt ≤ 990) : JJ n (cF_X5_letLeaveLane (n + 1) (some (n + (2 + 2 * p))) M) (qF_leaves (nI p) r) (pS d (qF_leaves (nI p) r)) CL := by
  have A0 := A
  obtain ⟨A1, A2, A3, A4, A5⟩ := A
  have a2 := A2 p hp
  have a4 := A4 p
  have e4 := jN_toInt a4.1
  have ep : (nI p).toNatClampNeg = p := jN_nI (by omega)
  obtain ⟨N, hN, hNQ, hF⟩ : ∃ N : Nat, ((r.2 42 p).toInt = N ∨ ((N : Int) ≤ (r.2 42 p).toInt ∧ jN (r.2 51 p) = N)) ∧ N ≤ jN (r.2 51 p) ∧ qF_leaves (nI p) r = qF_leaves_33 (nI p) (nI N) (nI 0) r := by
    rw [qE_leaves, ep]
    by_cases c : r.2 42 p ≤ r.2 51 p
    · have c' := i_le c rfl rfl
      have e2 := jN_toInt (x := r.2 42 p) (by omega)
      exact ⟨jN (r.2 42 p), Or.inl e2.symm, by omega, by rw [if_pos c, qE_leaves_30, jI_jN (by omega)]; rfl⟩
    · have c' := i_nle c rfl rfl
      exact ⟨jN (r.2 51 p), Or.inr ⟨by omega, rfl⟩, Nat.le_refl _, by rw [if_neg c, qE_leaves_30, jI_jN a4.1]; rfl⟩
  have W0 : q_W p 0 r r := ⟨rfl, fun _ _ _ => rfl, fun _ _ => rfl, by rw [← jI_0, Int32.sub_zero], fun j _ => by rw [Nat.zero_add], fun _ _ => rfl⟩
  obtain ⟨a', g1, g2⟩ := j_laneL hp N 0 M r r (by omega) W0 J A0 hN hNQ hd h0 (by omega)
  obtain ⟨w1, w2, w3, w4, w5, w6⟩ := g2
  obtain ⟨l1, l2⟩ := q_LNr (p := p) N 0 r
  have h51 : (q_LN p 0 N r).2 51 p = nI (jN (r.2 51 p)) := by rw [l1 51 (by decide) (by decide) (by decide), jI_jN a4.1]
  obtain ⟨f, f1, f2, f3⟩ := q_lv157 (N := N) (Q := jN (r.2 51 p)) hp (by omega) hNQ (jN (r.2 51 p) - N) N (q_LN p 0 N r) h51 (Nat.le_refl _) (by omega)
  rw [hF, q_lv33 hp (by omega) N 0 r (by omega), f1]
  rw [cE_X5_letLeaveLane]
  have e51' : jN ((q_LN p 0 N r).2 51 p) = jN (r.2 51 p) := by rw [l1 51 (by decide) (by decide) (by decide)]
  have hpS : pS d (ua (uA (q_LN p 0 N r) 50 f) 51 p ((q_LN p 0 N r).2 51 p - nI N)) = pS d a' := by
    refine pS_congr ?_ (fun k _ => ?_)
    · show (q_LN p 0 N r).1 1554 = a'.1 1554
      rw [w1]
    · rw [ua_n (by decide), uA_n (by decide), w2 56 (by decide) (by decide)]
  rw [hpS]
  refine g1.q50 ?_ (fun x hx => ?_) (fun p1 k hp1 hk => ?_)
  · show (q_LN p 0 N r).1 = a'.1
    rw [w1]
  · by_cases h5 : x = 51
    · subst h5
      funext i
      rw [ua2, if_pos rfl]
      by_cases hi : i = p
      · subst hi; rw [if_pos rfl, w4]
      · rw [if_neg hi, uA_n (by decide), w3 i hi]
    · rw [ua_n h5, uA_n hx, w2 x hx h5]
  · rw [ua_n (by decide), uA_e]
    by_cases hpp : p1 = p
    · subst hpp
      rw [w4, h51] at hk
      have hk2 : k + N < jN (r.2 51 p1) := by
        rw [jI_sub hNQ (by omega), jN_nI (by omega)] at hk; omega
      rw [f2 k (by omega) (by omega), w5 k (by rw [e51']; omega)]
    · have hk2 : k < 30 := by
        rw [w3 p1 hpp, l1 51 (by decide) (by decide) (by decide)] at hk
        have := jN_toInt (A4 p1).1
        have := (A4 p1).2
        omega
      rw [w6 _ (by omega)]
      by_cases c : p1 < p
      · exact f3 _ (Or.inl (by omega))
      · exact f3 _ (Or.inr (by omega))
end JLY
