/-! ===== THE LIKENESS: what a stream's bytes leave alone ===== -/
section JBF
variable {n : Nat} {M M0 M1 M2 : z_Mem} {r r1 : q_R} {TL CL : List Nat} {t s q z : Nat} {d : Int} {f g : Nat → Int32}
/-- only the streams' fields and rows change -/
def bF (M M1 : z_Mem) : Prop := (∀ g b, g < 1150 → z_fi M1 g b = z_fi M g b) ∧ (∀ g b, z_fr M1 g b = z_fr M g b) ∧ (∀ b i, z_ar M1 b i = z_ar M b i)
theorem bF_r : bF M M := ⟨fun _ _ _ => rfl, fun _ _ => rfl, fun _ _ => rfl⟩
theorem bF_tr (a : bF M M1) (b : bF M1 M2) : bF M M2 := ⟨fun g x h => (b.1 g x h).trans (a.1 g x h), fun g x => (b.2.1 g x).trans (a.2.1 g x), fun x i => (b.2.2 x i).trans (a.2.2 x i)⟩
theorem bF_sfi {k a : Nat} {v : Int32} (h : 1150 ≤ k) : bF M (z_sfi M k a v) := ⟨fun g b hg => by rw [zq_fi_sfi, if_neg (by omega)], fun _ _ => rfl, fun _ _ => rfl⟩
theorem bF_sai {a j : Nat} {v : Int32} : bF M (z_sai M a j v) := ⟨fun _ _ _ => rfl, fun _ _ => rfl, fun _ _ => rfl⟩
theorem c_isLostM {a : Nat} {p : Int32} : ∃ x, cF_X9_isLost a p M = (x, M) := by
  rw [cE_X9_isLost]
  by_cases c1 : p < 0
  · exact ⟨0, by rw [if_pos c1]⟩
  · rw [if_neg c1]
    by_cases c2 : z_fi M 1153 a ≤ p
    · exact ⟨0, by rw [if_pos c2]⟩
    · rw [if_neg c2]
      by_cases c3 : 200 ≤ p
      · exact ⟨0, by rw [if_pos c3]⟩
      · rw [if_neg c3]
        generalize Option.getD (z_fr M 1159 a) 0 = u
        generalize Option.getD (z_fr M 1160 a) 0 = w
        by_cases c4 : z_ai M u p.toNatClampNeg = 0
        · by_cases c5 : z_ai M w p.toNatClampNeg = 0
          · exact ⟨1, (q_ste (b := u) rfl).trans ((if_pos c4).trans ((q_ste (b := w) rfl).trans (if_pos c5)))⟩
          · exact ⟨0, (q_ste (b := u) rfl).trans ((if_pos c4).trans ((q_ste (b := w) rfl).trans (if_neg c5)))⟩
        · exact ⟨0, (q_ste (b := u) rfl).trans (if_neg c4)⟩
theorem c_ack38 {a k : Nat} {x1 x2 : Int32} (hk : k < 200) : ∃ M1, bF M M1 ∧ cF_X9_acknowledge_38 a x1 x2 (nI k) M = .inl (x1, x2, nI (k + 1), M1) := by
  have h64 : ∀ M2 : z_Mem, cF_X9_acknowledge_64 a x1 x2 (nI k) M2 = .inl (x1, x2, nI (k + 1), M2) := fun M2 => by
    have h := cE_X9_acknowledge_64 a x1 x2 (nI k) M2
    exact h.trans (q_ste (b := nI (k + 1)) (by rw [jI_1, jI_add (by omega)]))
  rw [cE_X9_acknowledge_38]
  generalize Option.getD (z_fr M 1159 a) 0 = u
  by_cases c : z_ai M u (nI k).toNatClampNeg = 0
  · refine ⟨z_sfi (z_sai M u (nI k).toNatClampNeg 1) 1154 a (z_fi (z_sai M u (nI k).toNatClampNeg 1) 1154 a + 1), bF_tr bF_sai (bF_sfi (by omega)), ?_⟩
    exact (q_ste (b := u) rfl).trans ((if_pos c).trans ((q_ste (b := u) rfl).trans ((q_ste (b := z_sai M u (nI k).toNatClampNeg 1) rfl).trans ((q_ste (b := z_sfi (z_sai M u (nI k).toNatClampNeg 1) 1154 a (z_fi (z_sai M u (nI k).toNatClampNeg 1) 1154 a + 1)) rfl).trans (h64 _)))))
  · exact ⟨M, bF_r, (q_ste (b := u) rfl).trans ((if_neg c).trans (h64 _))⟩
theorem c_ackFr6 {a y m : Nat} (hym : y + m ≤ 200) : ∀ k' k (M : z_Mem), k + k' = m → bF M (cF_X9_acknowledge_6 a (nI y) (nI m) (nI (y + k)) M) := by
  intro k'
  induction k' with
  | zero =>
    intro k M hk
    have hB := cE_X9_acknowledge_6 a (nI y) (nI m) (nI (y + k)) M
    rw [jI_add (by omega), if_pos ((jI_le (by omega) (by omega)).mpr (by omega))] at hB
    rw [cUr_X9_acknowledge_6 hB]
    exact bF_r
  | succ k' ih =>
    intro k M hk
    have hB := cE_X9_acknowledge_6 a (nI y) (nI m) (nI (y + k)) M
    have g1 : ¬ nI (y + m) ≤ nI (y + k) := fun h => by rw [jI_le (by omega) (by omega)] at h; omega
    have g2 : ¬ (200 : Int32) ≤ nI (y + k) := fun h => by rw [show (200 : Int32) = nI 200 from rfl, jI_le (by omega) (by omega)] at h; omega
    rw [jI_add (by omega), if_neg g1, if_neg g2] at hB
    obtain ⟨x, hx⟩ := c_isLostM (M := M) (a := a) (p := nI (y + k))
    replace hB := hB.trans (q_ste2 hx)
    by_cases c : x = 0
    · rw [if_pos c] at hB
      obtain ⟨M1, b1, b2⟩ := c_ack38 (M := M) (a := a) (x1 := nI y) (x2 := nI m) (show y + k < 200 by omega)
      rw [cUl_X9_acknowledge_6 (hB.trans b2)]
      exact bF_tr b1 (ih (k + 1) M1 (by omega))
    · rw [if_neg c] at hB
      replace hB := hB.trans (q_ste (b := z_sfi M 1155 a (z_fi M 1155 a - 1)) rfl)
      obtain ⟨M1, b1, b2⟩ := c_ack38 (M := z_sfi M 1155 a (z_fi M 1155 a - 1)) (a := a) (x1 := nI y) (x2 := nI m) (show y + k < 200 by omega)
      rw [cUl_X9_acknowledge_6 (hB.trans b2)]
      exact bF_tr (bF_tr (bF_sfi (by omega)) b1) (ih (k + 1) M1 (by omega))
theorem c_ackFr {a y m : Nat} (hym : y + m ≤ 200) : bF M (cF_X9_acknowledge a (nI y) (nI m) M) := by
  have h := c_ackFr6 (a := a) hym m 0 M (by omega)
  have hB := cE_X9_acknowledge a (nI y) (nI m) M
  rw [jI_max0 (by omega)] at hB
  rw [hB.trans (q_ste (b := nI y) rfl)]
  exact h
theorem c_landFr6 {a y m : Nat} (hym : y + m ≤ 200) : ∀ k' k (M : z_Mem), k + k' = m → bF M (cF_X9_land_6 a (nI y) (nI m) (nI (y + k)) M) := by
  intro k'
  induction k' with
  | zero =>
    intro k M hk
    have hB := cE_X9_land_6 a (nI y) (nI m) (nI (y + k)) M
    rw [jI_add (by omega), if_pos ((jI_le (by omega) (by omega)).mpr (by omega))] at hB
    rw [cUr_X9_land_6 hB]
    exact bF_r
  | succ k' ih =>
    intro k M hk
    have hB := cE_X9_land_6 a (nI y) (nI m) (nI (y + k)) M
    have g1 : ¬ nI (y + m) ≤ nI (y + k) := fun h => by rw [jI_le (by omega) (by omega)] at h; omega
    have g2 : ¬ (200 : Int32) ≤ nI (y + k) := fun h => by rw [show (200 : Int32) = nI 200 from rfl, jI_le (by omega) (by omega)] at h; omega
    have h48 : ∀ M2 : z_Mem, cF_X9_land_48 a (nI y) (nI m) (nI (y + k)) M2 = .inl (nI y, nI m, nI (y + (k + 1)), M2) := fun M2 => by
      have h := cE_X9_land_48 a (nI y) (nI m) (nI (y + k)) M2
      exact h.trans (q_ste (b := nI (y + (k + 1))) (by rw [jI_1, jI_add (by omega)]; rfl))
    rw [jI_add (by omega), if_neg g1, if_neg g2] at hB
    generalize Option.getD (z_fr M 1160 a) 0 = u at hB
    replace hB := hB.trans (q_ste (b := u) rfl)
    replace hB := hB.trans (q_ste rfl)
    generalize hw : z_sai M u (nI (y + k)).toNatClampNeg (z_ai M u (nI (y + k)).toNatClampNeg - 1) = W at hB
    have bW : bF M W := by rw [← hw]; exact bF_sai
    obtain ⟨x, hx⟩ := c_isLostM (M := W) (a := a) (p := nI (y + k))
    replace hB := hB.trans (q_ste2 hx)
    by_cases c : x = 0
    · rw [if_pos c] at hB
      rw [cUl_X9_land_6 (hB.trans (h48 _))]
      exact bF_tr bW (ih (k + 1) _ (by omega))
    · rw [if_neg c] at hB
      replace hB := hB.trans (q_ste (b := z_sfi W 1155 a (z_fi W 1155 a + 1)) rfl)
      rw [cUl_X9_land_6 (hB.trans (h48 _))]
      exact bF_tr (bF_tr bW (bF_sfi (by omega))) (ih (k + 1) _ (by omega))
theorem c_landFr {a y m : Nat} (hym : y + m ≤ 200) : bF M (cF_X9_land a (nI y) (nI m) M) := by
  have h := c_landFr6 (a := a) hym m 0 M (by omega)
  have hB := cE_X9_land a (nI y) (nI m) M
  rw [jI_max0 (by omega)] at hB
  rw [hB.trans (q_ste (b := nI y) rfl)]
  exact h
end JBF
