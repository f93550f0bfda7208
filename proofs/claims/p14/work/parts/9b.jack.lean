/-! ===== THE LIKENESS: bytes are acknowledged, and take off ===== -/
section JAB
variable {n : Nat} {M M0 M1 M2 : z_Mem} {r r1 a b c : q_R} {TL CL : List Nat} {t s q z : Nat} {d : Int} {f g : Nat → Int32}
/-- a byte is acknowledged -/
theorem j_ack1 (J : JJ n M r TL CL) {s j : Nat} (hs : s < 4) (hj : j < 200) (h01 : r.2 69 (200 * s + j) = 0 ∨ r.2 69 (200 * s + j) = 1) : ∃ M', (∀ x1 x2 : Int32, ¬ x1 + x2 ≤ nI j → cB_X9_acknowledge_6 (n + (12 + 4 * s)) x1 x2 (nI j) M = .inl (x1, x2, nI (j + 1), M')) ∧ JJ n M' (ua r 69 (200 * s + j) 1) TL CL := by
  have F := j_sfr J.1 hs
  have R := j_rows J hs hj
  have L := j_lo J hs
  have hcnt := j_cnt (r := r) (s := s) (j := j) (x := 69) (v := 1) (Or.inl rfl) hj
  have lost := j_isLost J hs hj
  have le : j_lost (ua r 69 (200 * s + j) 1) s j = false := by
    unfold j_lost
    rw [ua_e]
    exact decide_eq_false (fun h => absurd h.2.1 (by decide))
  have hc := j_clt (p := j_lost r s)
  have e64 : ∀ x1 x2 N, cF_X9_acknowledge_64 (n + (12 + 4 * s)) x1 x2 (nI j) N = .inl (x1, x2, nI (j + 1), N) := fun x1 x2 N => by rw [cE_X9_acknowledge_64]; exact q_ste (j_inc (by omega)).symm
  have e38 : ∀ x1 x2 (N : z_Mem), y_S n N → z_ai N (n + (13 + 4 * s)) j = r.2 69 (200 * s + j) → cF_X9_acknowledge_38 (n + (12 + 4 * s)) x1 x2 (nI j) N = (if r.2 69 (200 * s + j) = 0 then .inl (x1, x2, nI (j + 1), z_sfi (z_sai N (n + (13 + 4 * s)) j 1) 1154 (n + (12 + 4 * s)) (z_fi N 1154 (n + (12 + 4 * s)) + 1)) else .inl (x1, x2, nI (j + 1), N)) := fun x1 x2 N SN hN => by
    have FN := j_sfr SN hs
    rw [cE_X9_acknowledge_38, FN.1]
    refine (q_ste (b := n + (13 + 4 * s)) rfl).trans ?_
    rw [jI_N (by omega), hN]
    by_cases c : r.2 69 (200 * s + j) = 0
    · rw [if_pos c, if_pos c]
      refine (q_ste (b := n + (13 + 4 * s)) rfl).trans ?_
      refine (q_ste rfl).trans ?_
      rw [zq_fi_sai]
      exact (q_ste rfl).trans (e64 _ _ _)
    · rw [if_neg c, if_neg c]; exact e64 _ _ _
  have hB : ∀ x1 x2 : Int32, ¬ x1 + x2 ≤ nI j → cB_X9_acknowledge_6 (n + (12 + 4 * s)) x1 x2 (nI j) M = (if j_lost r s j = true then cF_X9_acknowledge_38 (n + (12 + 4 * s)) x1 x2 (nI j) (z_sfi M 1155 (n + (12 + 4 * s)) (nI (rf_c (j_lost r s) 200) - 1)) else cF_X9_acknowledge_38 (n + (12 + 4 * s)) x1 x2 (nI j) M) := fun x1 x2 hx => by
    rw [cE_X9_acknowledge_6, if_neg hx, if_neg (fun g => by have := i_le g (show (200 : Int32).toInt = 200 from rfl) (jI_t (k := j) (by omega)); omega)]
    refine (q_ste2 lost).trans ?_
    rw [L.2]
    by_cases c : j_lost r s j = true
    · rw [if_pos c, if_neg (by decide), if_pos c]; exact q_ste rfl
    · rw [if_neg c, if_pos rfl, if_neg c]
  by_cases c : j_lost r s j = true
  · have cz : r.2 69 (200 * s + j) = 0 := by
      unfold j_lost at c
      exact (of_decide_eq_true c).2.1
    have h1 := hcnt.2.1 c le
    refine ⟨_, fun x1 x2 hx => by rw [hB x1 x2 hx, if_pos c, e38 x1 x2 _ (S_sfi J.1) R.1, if_pos cz], ?_⟩
    refine J.byte hs hj (Or.inl ⟨rfl, rfl⟩) (S_sfi (S_sai (S_sfi J.1))) rfl rfl rfl (fun k y h => ?_) (fun y i => ?_) ?_
    · rw [zq_fi_sfi]
      by_cases c1 : k = 1154
      · rw [if_pos c1, if_neg (fun e => h ⟨Or.inr c1, e⟩), zq_fi_sai, zq_fi_sfi, if_neg (by omega)]
      · rw [if_neg c1, zq_fi_sai, zq_fi_sfi]
        by_cases c2 : k = 1155
        · rw [if_pos c2, if_neg (fun e => h ⟨Or.inl c2, e⟩)]
        · rw [if_neg c2]
    · rw [zq_ai_sfi, zq_ai_sai]; rfl
    · rw [zq_fi_sfi, if_neg (by decide), zq_fi_sai, zq_fi_sfi, if_pos rfl, if_pos rfl, ← h1, j_dec (by omega)]
  · have cf : j_lost r s j = false := by cases h : j_lost r s j; rfl; exact absurd h c
    have h1 := hcnt.1 cf le
    by_cases cz : r.2 69 (200 * s + j) = 0
    · refine ⟨_, fun x1 x2 hx => by rw [hB x1 x2 hx, if_neg c, e38 x1 x2 _ J.1 R.1, if_pos cz], ?_⟩
      refine J.byte hs hj (Or.inl ⟨rfl, rfl⟩) (S_sfi (S_sai J.1)) rfl rfl rfl (fun k y h => ?_) (fun y i => ?_) ?_
      · rw [zq_fi_sfi, zq_fi_sai]
        by_cases c1 : k = 1154
        · rw [if_pos c1, if_neg (fun e => h ⟨Or.inr c1, e⟩)]
        · rw [if_neg c1]
      · rw [zq_ai_sfi, zq_ai_sai]
      · rw [zq_fi_sfi, if_neg (by decide), zq_fi_sai, h1]; exact L.2
    · have c1 : r.2 69 (200 * s + j) = 1 := h01.resolve_left cz
      refine ⟨_, fun x1 x2 hx => by rw [hB x1 x2 hx, if_neg c, e38 x1 x2 _ J.1 R.1, if_neg cz], ?_⟩
      rw [ua_id c1]; exact J
theorem j_ack6 {s a m : Nat} (hs : s < 4) (ham : a + m ≤ 200) : ∀ k' k (M : z_Mem) (r : q_R), k + k' = m → JJ n M r TL CL → (∀ i, r.2 69 i = 0 ∨ r.2 69 i = 1) → JJ n (cF_X9_acknowledge_6 (n + (12 + 4 * s)) (nI a) (nI m) (nI (a + k)) M) (uA r 69 (rS (r.2 69) (200 * s + (a + k)) k' 1)) TL CL := by
  intro k'
  induction k' with
  | zero =>
    intro k M r hk J _
    have hB := cE_X9_acknowledge_6 (n + (12 + 4 * s)) (nI a) (nI m) (nI (a + k)) M
    rw [jI_add (by omega), if_pos ((jI_le (by omega) (by omega)).mpr (by omega))] at hB
    rw [cUr_X9_acknowledge_6 hB, rS_0, uA_id]
    exact J
  | succ k' ih =>
    intro k M r hk J h01
    obtain ⟨M', g1, g2⟩ := j_ack1 J hs (j := a + k) (by omega) (h01 _)
    rw [cUl_X9_acknowledge_6 (g1 (nI a) (nI m) (by rw [jI_add (by omega)]; exact fun h => absurd ((jI_le (by omega) (by omega)).mp h) (by omega)))]
    have := ih (k + 1) M' _ (by omega) g2 (fun i => by
      rw [ua2, if_pos rfl]
      split
      · exact Or.inr rfl
      · exact h01 i)
    rw [show a + (k + 1) = a + k + 1 from by omega] at this
    rw [← uA_rS]
    rw [show 200 * s + (a + k + 1) = 200 * s + (a + k) + 1 from by omega] at this
    exact this
theorem j_ackF (J : JJ n M r TL CL) {s a m : Nat} (hs : s < 4) (ham : a + m ≤ 200) (h01 : ∀ i, r.2 69 i = 0 ∨ r.2 69 i = 1) : JJ n (cF_X9_acknowledge (n + (12 + 4 * s)) (nI a) (nI m) M) (uA r 69 (rS (r.2 69) (200 * s + a) m 1)) TL CL := by
  rw [cE_X9_acknowledge, jI_max0 (by omega)]
  exact j_ack6 hs ham m 0 M r (by omega) J h01
/-- a byte takes off -/
theorem j_off1 (J : JJ n M r TL CL) {s j : Nat} (hs : s < 4) (hj : j < 200) (h0 : 0 ≤ (r.2 70 (200 * s + j)).toInt) (h1 : (r.2 70 (200 * s + j)).toInt < 2000) : ∃ M', (∀ x1 x2 : Int32, ¬ x1 + x2 ≤ nI j → cB_X9_takeOff_6 (n + (12 + 4 * s)) x1 x2 (nI j) M = .inl (x1, x2, nI (j + 1), M')) ∧ JJ n M' (ua r 70 (200 * s + j) (r.2 70 (200 * s + j) + 1)) TL CL := by
  have F := j_sfr J.1 hs
  have R := j_rows J hs hj
  have L := j_lo J hs
  have hcnt := j_cnt (r := r) (s := s) (j := j) (x := 70) (v := r.2 70 (200 * s + j) + 1) (Or.inr rfl) hj
  have lost := j_isLost J hs hj
  have e70 : (r.2 70 (200 * s + j) + 1).toInt = (r.2 70 (200 * s + j)).toInt + 1 := i_addE rfl (show (1 : Int32).toInt = 1 from rfl) (by omega) (by omega)
  have le : j_lost (ua r 70 (200 * s + j) (r.2 70 (200 * s + j) + 1)) s j = false := by
    unfold j_lost
    rw [ua_e]
    refine decide_eq_false (fun h => ?_)
    have := h.2.2
    rw [this] at e70
    rw [show (0 : Int32).toInt = 0 from rfl] at e70
    omega
  have hc := j_clt (p := j_lost r s)
  have e38 : ∀ x1 x2 (N : z_Mem), y_S n N → z_ai N (n + (14 + 4 * s)) j = r.2 70 (200 * s + j) → cF_X9_takeOff_38 (n + (12 + 4 * s)) x1 x2 (nI j) N = .inl (x1, x2, nI (j + 1), z_sai N (n + (14 + 4 * s)) j (r.2 70 (200 * s + j) + 1)) := fun x1 x2 N SN hN => by
    have FN := j_sfr SN hs
    rw [cE_X9_takeOff_38, FN.2.1]
    refine (q_ste (b := n + (14 + 4 * s)) rfl).trans ?_
    rw [jI_N (by omega), hN]
    refine (q_ste rfl).trans ?_
    exact q_ste (j_inc (by omega)).symm
  have hB : ∀ x1 x2 : Int32, ¬ x1 + x2 ≤ nI j → cB_X9_takeOff_6 (n + (12 + 4 * s)) x1 x2 (nI j) M = (if j_lost r s j = true then cF_X9_takeOff_38 (n + (12 + 4 * s)) x1 x2 (nI j) (z_sfi M 1155 (n + (12 + 4 * s)) (nI (rf_c (j_lost r s) 200) - 1)) else cF_X9_takeOff_38 (n + (12 + 4 * s)) x1 x2 (nI j) M) := fun x1 x2 hx => by
    rw [cE_X9_takeOff_6, if_neg hx, if_neg (fun g => by have := i_le g (show (200 : Int32).toInt = 200 from rfl) (jI_t (k := j) (by omega)); omega)]
    refine (q_ste2 lost).trans ?_
    rw [L.2]
    by_cases c : j_lost r s j = true
    · rw [if_pos c, if_neg (by decide), if_pos c]; exact q_ste rfl
    · rw [if_neg c, if_pos rfl, if_neg c]
  by_cases c : j_lost r s j = true
  · have h2 := hcnt.2.1 c le
    refine ⟨_, fun x1 x2 hx => by rw [hB x1 x2 hx, if_pos c, e38 x1 x2 _ (S_sfi J.1) R.2.1], ?_⟩
    refine J.byte hs hj (Or.inr ⟨rfl, rfl⟩) (S_sai (S_sfi J.1)) rfl rfl rfl (fun k y h => ?_) (fun y i => ?_) ?_
    · rw [zq_fi_sai, zq_fi_sfi]
      by_cases c2 : k = 1155
      · rw [if_pos c2, if_neg (fun e => h ⟨Or.inl c2, e⟩)]
      · rw [if_neg c2]
    · rw [zq_ai_sai]; rfl
    · rw [zq_fi_sai, zq_fi_sfi, if_pos rfl, if_pos rfl, ← h2, j_dec (by omega)]
  · have cf : j_lost r s j = false := by cases h : j_lost r s j; rfl; exact absurd h c
    have h2 := hcnt.1 cf le
    refine ⟨_, fun x1 x2 hx => by rw [hB x1 x2 hx, if_neg c, e38 x1 x2 _ J.1 R.2.1], ?_⟩
    refine J.byte hs hj (Or.inr ⟨rfl, rfl⟩) (S_sai J.1) rfl rfl rfl (fun k y h => rfl) (fun y i => by rw [zq_ai_sai]) ?_
    rw [zq_fi_sai, h2]; exact L.2
end JAB
