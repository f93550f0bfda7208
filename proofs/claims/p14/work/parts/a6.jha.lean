/-! ===== THE LIKENESS: what the class's hearing of a packet leaves alone ===== -/
section JHA
variable {n : Nat} {M M0 M1 M2 : z_Mem} {r r1 r2 : q_R} {TL CL : List Nat} {t s q z : Nat}
/-- fields below 100, references, rows behind the fixed objects stay -/
def hA (n : Nat) (M M1 : z_Mem) : Prop := y_S n M1 ∧ z_sz M1 = z_sz M ∧ (∀ g b, g < 100 → z_fi M1 g b = z_fi M g b) ∧ (∀ g b, z_fr M1 g b = z_fr M g b) ∧ (∀ b i, n + 108 ≤ b → z_ai M1 b i = z_ai M b i) ∧ (∀ b i, z_ar M1 b i = z_ar M b i)
theorem hA_r (S : y_S n M) : hA n M M := ⟨S, rfl, fun _ _ _ => rfl, fun _ _ => rfl, fun _ _ _ => rfl, fun _ _ => rfl⟩
theorem hA_t (h : hA n M M1) (k : hA n M1 M2) : hA n M M2 := ⟨k.1, k.2.1.trans h.2.1, fun g b hg => (k.2.2.1 g b hg).trans (h.2.2.1 g b hg), fun g b => (k.2.2.2.1 g b).trans (h.2.2.2.1 g b), fun b i hb => (k.2.2.2.2.1 b i hb).trans (h.2.2.2.2.1 b i hb), fun b i => (k.2.2.2.2.2 b i).trans (h.2.2.2.2.2 b i)⟩
theorem hA_f (h : hA n M M1) {g a : Nat} {v : Int32} (hg : 100 ≤ g) : hA n M (z_sfi M1 g a v) := hA_t h ⟨S_sfi h.1, rfl, fun k b hk => by rw [zq_fi_sfi, if_neg (by omega)], fun _ _ => rfl, fun _ _ _ => rfl, fun _ _ => rfl⟩
theorem hA_a (h : hA n M M1) {c j : Nat} {v : Int32} (hc : c < 108) : hA n M (z_sai M1 (n + c) j v) := hA_t h ⟨S_sai h.1, rfl, fun _ _ _ => rfl, fun _ _ => rfl, fun b i hb => by rw [zq_ai_sai, if_neg (by omega)], fun _ _ => rfl⟩
theorem hA_s {A : Type} {a : A} {f : A → z_Mem} (h : ∀ b, b = a → hA n M (f b)) : hA n M (q_st a f) := h a rfl
theorem hA_s2 {A : Type} {a : A × z_Mem} {f : A → z_Mem → z_Mem} {x : A} (h : a = (x, M1)) (k : hA n M (f x M1)) : hA n M (q_st2 a f) := by rw [h]; exact k
theorem c_ackA6 {sN y m : Nat} (hs : sN < 4) (hym : y + m ≤ 200) : ∀ k' k (M1 : z_Mem), k + k' = m → hA n M M1 → hA n M (cF_X9_acknowledge_6 (n + (12 + 4 * sN)) (nI y) (nI m) (nI (y + k)) M1) := by
  intro k'
  induction k' with
  | zero =>
    intro k M1 hk H
    have hB := cE_X9_acknowledge_6 (n + (12 + 4 * sN)) (nI y) (nI m) (nI (y + k)) M1
    rw [jI_add (by omega), if_pos ((jI_le (by omega) (by omega)).mpr (by omega))] at hB
    rw [cUr_X9_acknowledge_6 hB]
    exact H
  | succ k' ih =>
    intro k M1 hk H
    have hB := cE_X9_acknowledge_6 (n + (12 + 4 * sN)) (nI y) (nI m) (nI (y + k)) M1
    have g1 : ¬ nI (y + m) ≤ nI (y + k) := fun h => by rw [jI_le (by omega) (by omega)] at h; omega
    have g2 : ¬ (200 : Int32) ≤ nI (y + k) := fun h => by rw [show (200 : Int32) = nI 200 from rfl, jI_le (by omega) (by omega)] at h; omega
    rw [jI_add (by omega), if_neg g1, if_neg g2] at hB
    have h38 : ∀ M2 : z_Mem, hA n M M2 → ∃ M3, hA n M M3 ∧ cF_X9_acknowledge_38 (n + (12 + 4 * sN)) (nI y) (nI m) (nI (y + k)) M2 = .inl (nI y, nI m, nI (y + (k + 1)), M3) := fun M2 H2 => by
      have h64 : ∀ M3 : z_Mem, cF_X9_acknowledge_64 (n + (12 + 4 * sN)) (nI y) (nI m) (nI (y + k)) M3 = .inl (nI y, nI m, nI (y + (k + 1)), M3) := fun M3 => by
        have h := cE_X9_acknowledge_64 (n + (12 + 4 * sN)) (nI y) (nI m) (nI (y + k)) M3
        exact h.trans (q_ste (b := nI (y + (k + 1))) (by rw [jI_1, jI_add (by omega)]; rfl))
      have h := cE_X9_acknowledge_38 (n + (12 + 4 * sN)) (nI y) (nI m) (nI (y + k)) M2
      have hr := (j_sfr H2.1 hs).1
      rw [hr] at h
      replace h := h.trans (q_ste (b := n + (13 + 4 * sN)) rfl)
      by_cases c : z_ai M2 (n + (13 + 4 * sN)) (nI (y + k)).toNatClampNeg = 0
      · rw [if_pos c] at h
        replace h := h.trans (q_ste (b := n + (13 + 4 * sN)) rfl)
        replace h := h.trans (q_ste rfl)
        replace h := h.trans (q_ste rfl)
        exact ⟨_, hA_f (hA_a H2 (by omega)) (by decide), h.trans (h64 _)⟩
      · rw [if_neg c] at h
        exact ⟨M2, H2, h.trans (h64 _)⟩
    obtain ⟨x, hx⟩ := c_isLostM (M := M1) (a := n + (12 + 4 * sN)) (p := nI (y + k))
    replace hB := hB.trans (q_ste2 hx)
    by_cases c : x = 0
    · rw [if_pos c] at hB
      obtain ⟨M3, b1, b2⟩ := h38 M1 H
      rw [cUl_X9_acknowledge_6 (hB.trans b2)]
      exact ih (k + 1) M3 (by omega) b1
    · rw [if_neg c] at hB
      replace hB := hB.trans (q_ste rfl)
      obtain ⟨M3, b1, b2⟩ := h38 (z_sfi M1 1155 (n + (12 + 4 * sN)) (z_fi M1 1155 (n + (12 + 4 * sN)) - 1)) (hA_f H (by decide))
      rw [cUl_X9_acknowledge_6 (hB.trans b2)]
      exact ih (k + 1) M3 (by omega) b1
theorem c_ackA {sN y m : Nat} (hs : sN < 4) (hym : y + m ≤ 200) (H : hA n M M1) : hA n M (cF_X9_acknowledge (n + (12 + 4 * sN)) (nI y) (nI m) M1) := by
  have h := c_ackA6 (M := M) hs hym m 0 M1 (by omega) H
  have hB := cE_X9_acknowledge (n + (12 + 4 * sN)) (nI y) (nI m) M1
  rw [jI_max0 (by omega)] at hB
  rw [hB.trans (q_ste (b := nI y) rfl)]
  exact h
theorem c_landA6 {sN y m : Nat} (hs : sN < 4) (hym : y + m ≤ 200) : ∀ k' k (M1 : z_Mem), k + k' = m → hA n M M1 → hA n M (cF_X9_land_6 (n + (12 + 4 * sN)) (nI y) (nI m) (nI (y + k)) M1) := by
  intro k'
  induction k' with
  | zero =>
    intro k M1 hk H
    have hB := cE_X9_land_6 (n + (12 + 4 * sN)) (nI y) (nI m) (nI (y + k)) M1
    rw [jI_add (by omega), if_pos ((jI_le (by omega) (by omega)).mpr (by omega))] at hB
    rw [cUr_X9_land_6 hB]
    exact H
  | succ k' ih =>
    intro k M1 hk H
    have hB := cE_X9_land_6 (n + (12 + 4 * sN)) (nI y) (nI m) (nI (y + k)) M1
    have g1 : ¬ nI (y + m) ≤ nI (y + k) := fun h => by rw [jI_le (by omega) (by omega)] at h; omega
    have g2 : ¬ (200 : Int32) ≤ nI (y + k) := fun h => by rw [show (200 : Int32) = nI 200 from rfl, jI_le (by omega) (by omega)] at h; omega
    have h48 : ∀ M3 : z_Mem, cF_X9_land_48 (n + (12 + 4 * sN)) (nI y) (nI m) (nI (y + k)) M3 = .inl (nI y, nI m, nI (y + (k + 1)), M3) := fun M3 => by
      have h := cE_X9_land_48 (n + (12 + 4 * sN)) (nI y) (nI m) (nI (y + k)) M3
      exact h.trans (q_ste (b := nI (y + (k + 1))) (by rw [jI_1, jI_add (by omega)]; rfl))
    have hr := (j_sfr H.1 hs).2.1
    rw [jI_add (by omega), if_neg g1, if_neg g2, hr] at hB
    replace hB := hB.trans (q_ste (b := n + (14 + 4 * sN)) rfl)
    replace hB := hB.trans (q_ste rfl)
    have bW : hA n M (z_sai M1 (n + (14 + 4 * sN)) (nI (y + k)).toNatClampNeg (z_ai M1 (n + (14 + 4 * sN)) (nI (y + k)).toNatClampNeg - 1)) := hA_a H (by omega)
    generalize z_sai M1 (n + (14 + 4 * sN)) (nI (y + k)).toNatClampNeg (z_ai M1 (n + (14 + 4 * sN)) (nI (y + k)).toNatClampNeg - 1) = W at hB bW
    obtain ⟨x, hx⟩ := c_isLostM (M := W) (a := n + (12 + 4 * sN)) (p := nI (y + k))
    replace hB := hB.trans (q_ste2 hx)
    by_cases c : x = 0
    · rw [if_pos c] at hB
      rw [cUl_X9_land_6 (hB.trans (h48 _))]
      exact ih (k + 1) _ (by omega) bW
    · rw [if_neg c] at hB
      replace hB := hB.trans (q_ste (b := z_sfi W 1155 (n + (12 + 4 * sN)) (z_fi W 1155 (n + (12 + 4 * sN)) + 1)) rfl)
      rw [cUl_X9_land_6 (hB.trans (h48 _))]
      exact ih (k + 1) _ (by omega) (hA_f bW (by decide))
theorem c_landA {sN y m : Nat} (hs : sN < 4) (hym : y + m ≤ 200) (H : hA n M M1) : hA n M (cF_X9_land (n + (12 + 4 * sN)) (nI y) (nI m) M1) := by
  have h := c_landA6 (M := M) hs hym m 0 M1 (by omega) H
  have hB := cE_X9_land (n + (12 + 4 * sN)) (nI y) (nI m) M1
  rw [jI_max0 (by omega)] at hB
  rw [hB.trans (q_ste (b := nI y) rfl)]
  exact h
theorem c_leaveA (J : JJ n M r TL CL) (I : rf_I t s q z r.1 r.2) {i pk : Nat} {v : Int32} (hi : i < jN (r.1 1606)) (e : z_ar M (n + 38) i = some pk) (h71 : r.2 71 i = 0) : hA n M (cF_X1_leaveFlight (n + 31) (some pk) v M) := by
  obtain ⟨sN, a, m, hs, ham, e3, e4, e5⟩ := ri_by I i
  obtain ⟨pk0, a1, a2, a3, a4, a5⟩ := J.pkt hi
  rw [e] at a1
  cases a1
  have h1 : z_fi M 769 pk = 0 := (jp_769 a5).trans h71
  have h3 : z_fi M 771 pk = nI sN := (jp_771 a5).trans e3
  have h4 : z_fi M 772 pk = nI a := (jp_772 a5).trans e4
  have h5 : z_fi M 773 pk = nI m := (jp_773 a5).trans e5
  rw [c_leaveF J.1 hs h1 h3 h4 h5 rfl]
  have H1 : hA n M (z_sfi (z_sfi M 778 pk v) 899 (n + 32) (z_fi M 899 (n + 32) - 1)) := hA_f (hA_f (hA_r J.1) (by decide)) (by decide)
  have fr : ∀ g b, g ≠ 778 → g ≠ 899 → z_fi (z_sfi (z_sfi M 778 pk v) 899 (n + 32) (z_fi M 899 (n + 32) - 1)) g b = z_fi M g b := fun g b c1 c2 => by rw [zq_fi_sfi, if_neg c2, zq_fi_sfi, if_neg c1]
  generalize z_sfi (z_sfi M 778 pk v) 899 (n + 32) (z_fi M 899 (n + 32) - 1) = W at H1 fr
  by_cases c : v = 1
  · rw [if_pos c]
    have H2 := c_ackA hs ham H1
    have B := c_ackFr (M := W) (a := n + (12 + 4 * sN)) ham
    generalize cF_X9_acknowledge (n + (12 + 4 * sN)) (nI a) (nI m) W = V at H2 B
    rw [c_leave62 H2.1 hs ((B.1 771 pk (by decide)).trans ((fr 771 pk (by decide) (by decide)).trans h3)) ((B.1 772 pk (by decide)).trans ((fr 772 pk (by decide) (by decide)).trans h4)) ((B.1 773 pk (by decide)).trans ((fr 773 pk (by decide) (by decide)).trans h5))]
    exact c_landA hs ham H2
  · rw [if_neg c, c_leave62 H1.1 hs ((fr 771 pk (by decide) (by decide)).trans h3) ((fr 772 pk (by decide) (by decide)).trans h4) ((fr 773 pk (by decide) (by decide)).trans h5)]
    exact c_landA hs ham H1
theorem lg_ge {x y : Int64} (h : ¬ 0 ≤ lg_cmp x y) : x.toInt < y.toInt := Int64.lt_iff_toInt_lt.mp (lg_lt h)
theorem c_cubeM {a : Nat} {p1 : Int32} : ∃ v, cF_X2_cubeStep a p1 M = (v, M) := by
  have k : ∀ (m : Nat) (x2 x4 : Int64), (10000 - x4.toInt).toNat < m → 0 ≤ x4.toInt → x4.toInt ≤ 10000 → ∃ v, cF_X2_cubeStep_17 a p1 x2 x4 M = (v, M) := by
    intro m
    induction m with
    | zero => intro x2 x4 h; omega
    | succ m ih =>
      intro x2 x4 hm h0 h1
      have hC := cE_X2_cubeStep_17 a p1 x2 x4 M
      have h56 : ∃ v, cF_X2_cubeStep_56 a p1 x4 M = (v, M) := by
        have hD := cE_X2_cubeStep_56 a p1 x4 M
        exact ⟨_, hD.trans ((q_ste rfl).trans (q_ste rfl))⟩
      obtain ⟨v, hv⟩ := h56
      by_cases c1 : 0 ≤ lg_cmp x4 10000
      · rw [if_pos c1] at hC
        exact ⟨v, (cUr_X2_cubeStep_17 hC).trans hv⟩
      · rw [if_neg c1] at hC
        by_cases c2 : 0 ≤ lg_cmp ((((2 * x4) * x4) * x4) / 125) x2
        · rw [if_pos c2] at hC
          exact ⟨v, (cUr_X2_cubeStep_17 hC).trans hv⟩
        · rw [if_neg c2] at hC
          have c3 := lg_ge c1
          rw [show (10000 : Int64).toInt = 10000 from rfl] at c3
          have ty : (x4 + 1).toInt = x4.toInt + 1 := l_addE rfl (show (1 : Int64).toInt = 1 from rfl) (by omega) (by omega)
          replace hC := hC.trans (q_ste (b := x4 + 1) rfl)
          obtain ⟨w, hw⟩ := ih x2 (x4 + 1) (by omega) (by omega) (by omega)
          exact ⟨w, (cUl_X2_cubeStep_17 hC).trans hw⟩
  have hB := cE_X2_cubeStep a p1 M
  obtain ⟨v, hv⟩ := k 10001 ((3 * (z_fi M 260 a).toInt64) / 10) 0 (by decide) (by decide) (by decide)
  exact ⟨v, (hB.trans (q_ste rfl)).trans hv⟩
theorem c_growA {p1 p2 p3 p4 : Int32} (H : hA n M M1) : hA n M (cF_X2_grow (n + 33) p1 p2 p3 p4 M1) := by
  rw [cE_X2_grow]
  by_cases c2 : z_fi M1 256 (n + 33) = 2
  · rw [if_pos c2]
    refine hA_s (fun M18 e18 => ?_)
    have H18 : hA n M M18 := by
      rw [e18, cE_X2_keepRate, s_265_33 H.1]
      exact hA_s (fun a3 e3 => hA_s (fun M5 e5 => hA_s (fun M7 e7 => by
        have ea : a3 = n + 34 := e3
        rw [e7, e5, ea]
        exact hA_f (hA_a H (by decide)) (by decide))))
    refine hA_s2 (c_great H18.1) ?_
    exact hA_s (fun M20 e20 => by rw [e20]; exact hA_f H18 (by decide))
  · rw [if_neg c2]
    by_cases c3 : z_fi M1 258 (n + 33) ≤ z_fi M1 257 (n + 33)
    · rw [if_pos c3]
      by_cases c4 : z_fi M1 256 (n + 33) = 0
      · rw [if_pos c4]
        exact hA_s (fun M20 e20 => by rw [e20]; exact hA_f H (by decide))
      · rw [if_neg c4]
        obtain ⟨v, hv⟩ := c_cubeM (M := M1) (a := n + 33) (p1 := p1)
        refine hA_s2 hv ?_
        exact hA_s (fun M20 e20 => by rw [e20]; exact hA_f H (by decide))
    · rw [if_neg c3]
      exact hA_s (fun M20 e20 => by rw [e20]; exact hA_f H (by decide))
theorem c_tbA {a : Nat} {v : Int32} (H : hA n M M1) : hA n M (cF_X2_takeBackHarm a v M1) := by
  rw [cE_X2_takeBackHarm]
  by_cases c : v = z_fi M1 264 a
  · rw [if_pos c]
    exact hA_s (fun M3 e3 => hA_s (fun M6 e6 => hA_s (fun M9 e9 => by rw [e9, e6, e3]; exact hA_f (hA_f (hA_f H (by decide)) (by decide)) (by decide))))
  · rw [if_neg c]; exact H
theorem c_measA {a : Nat} {v : Int32} (H : hA n M M1) : hA n M (cF_X7_measure a v M1) := by
  rw [cE_X7_measure]
  refine hA_s (fun M2 e2 => ?_)
  have H2 : hA n M M2 := by rw [e2]; exact hA_f H (by decide)
  by_cases c : z_fi M2 904 a = 0
  · rw [if_pos c]
    exact hA_s (fun M4 e4 => hA_s (fun M5 e5 => hA_s (fun M6 e6 => hA_s (fun M7 e7 => by rw [e7, e6, e5, e4]; exact hA_f (hA_f (hA_f (hA_f H2 (by decide)) (by decide)) (by decide)) (by decide)))))
  · rw [if_neg c]
    exact hA_s (fun M4 e4 => hA_s (fun M5 e5 => hA_s (fun M6 e6 => by rw [e6, e5, e4]; exact hA_f (hA_f (hA_f H2 (by decide)) (by decide)) (by decide))))
theorem c_harmA {a : Nat} {p1 p2 p3 p4 : Int32} (H : hA n M M1) : hA n M (cF_X2_harm a p1 p2 p3 p4 M1) := by
  rw [cE_X2_harm]
  by_cases c : z_fi M1 263 a ≤ p1
  · rw [if_pos c]
    refine hA_s (fun M4 e4 => hA_s (fun M6 e6 => hA_s (fun M8 e8 => hA_s (fun M9 e9 => hA_s (fun M10 e10 => hA_s (fun M11 e11 => ?_))))))
    have H2 : hA n M M11 := by rw [e11, e10, e9, e8, e6, e4]; exact hA_f (hA_f (hA_f (hA_f (hA_f (hA_f H (by decide)) (by decide)) (by decide)) (by decide)) (by decide)) (by decide)
    by_cases c2 : z_fi M11 256 a = 2
    · rw [if_pos c2]; exact H2
    · rw [if_neg c2]
      by_cases c3 : z_fi M11 256 a = 1
      · rw [if_pos c3]
        exact hA_s (fun M20 e20 => hA_s (fun M21 e21 => by rw [e21, e20]; exact hA_f (hA_f H2 (by decide)) (by decide)))
      · rw [if_neg c3]
        exact hA_s (fun M20 e20 => hA_s (fun M21 e21 => by rw [e21, e20]; exact hA_f (hA_f H2 (by decide)) (by decide)))
  · rw [if_neg c]; exact H
end JHA
