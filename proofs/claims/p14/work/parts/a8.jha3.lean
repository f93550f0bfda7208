/-! ===== THE LIKENESS: an ACK is heard, credits and what follows ===== -/
section JHC
variable {n : Nat} {M M0 M1 M2 : z_Mem} {r r1 r2 : q_R} {TL CL : List Nat} {t s q z : Nat}
theorem kI_ua {x j : Nat} {v : Int32} (h : kI t s q z r) (h1 : rf_oa x = true) (h2 : x ∉ kRA) : kI t s q z (ua r x j v) := ⟨rI_a h.1 h1, kP_ua h.2 h2⟩
theorem kI_uf {g : Nat} {v : Int32} (h : kI t s q z r) (h1 : rf_of g = true) (h2 : g ∉ kRF) : kI t s q z (uf r g v) := ⟨rI_f h.1 h1, kP_uf h.2 h2⟩
/-- a stream's cell of both -/
theorem j_ssa (J : JJ n M r TL CL) {s' g x : Nat} {v : Int32} (hs : s' < 4) (hk : ∀ s, s < 4 → jokT g (12 + 4 * s) x s = true) (hx : 41 ≤ x) : JJ n (z_sfi M g (n + (12 + 4 * s')) v) (ua r x s' v) TL CL := J.sa rfl (hk s' hs) hx
theorem j_s1156 (J : JJ n M r TL CL) {s' : Nat} (hs : s' < 4) : z_fi M 1156 (n + (12 + 4 * s')) = r.2 68 s' := by
  have hm : ∀ s, s < 4 → (1156, 12 + 4 * s, 68, s) ∈ jT := by decide
  exact J.2.1 _ (hm s' hs)
/-- what the credits leave alone -/
def kFC (r r1 : q_R) : Prop := q_fr [1589] [68] r r1
theorem j_cr {b t' : Nat} (ht : t' < 3600) : ∀ (m s' : Nat) (M : z_Mem) (r : q_R), s' + m = 4 → JJ n M r TL CL → kI t s q z r → j_ack n M r b t' → ∃ M' r', JJ n M' r' TL CL ∧ kI t s q z r' ∧ kFC r r' ∧ cF_X1_takeCredits_2 (n + 31) (some b) (nI s') M = M' ∧ qF_hearsAck_184 (nI (15 * t')) (nI s') r = qF_hearsAck_248 0 r' := by
  intro m
  induction m with
  | zero =>
    intro s' M r hs J h A
    obtain ⟨h1, h2, l, hh, ee, g1, g2, g3, g4, g5, g6, k1, k2, k3, k4, k5⟩ := A
    have e4 : s' = 4 := by omega
    subst e4
    have hB := cE_X1_takeCredits_2 (n + 31) (some b) (nI 4) M
    rw [if_pos (by decide)] at hB
    replace hB := hB.trans (q_ste (b := b) rfl)
    rw [k5, js_144_31 J] at hB
    replace hB := hB.trans (q_ste rfl)
    have hQ := qE_hearsAck_184 (nI (15 * t')) (nI 4) r
    rw [if_pos (by decide), show (nI (15 * t') + 14 : Int32).toNatClampNeg = 15 * t' + 14 from q_ix (k := 14) (by omega) (by omega), q_maxe] at hQ
    replace hQ := hQ.trans (q_ste2 rfl)
    replace hQ := hQ.trans (q_ste rfl)
    refine ⟨_, _, ?_, ?_, ?_, cUr_X1_takeCredits_2 hB, qUr_hearsAck_184 hQ⟩
    · exact J.sf rfl (by decide)
    · exact kI_uf h (by decide) (by decide)
    · exact q_fruf (by decide) q_fr0
  | succ m ih =>
    intro s' M r hs J h A
    have A0 := A
    obtain ⟨h1, h2, l, hh, ee, g1, g2, g3, g4, g5, g6, k1, k2, k3, k4, k5⟩ := A
    have hs4 : s' < 4 := by omega
    have c4 : ¬ (4 : Int32) ≤ nI s' := jI_n4 hs4
    have e1 : nI (s' + 1) = nI s' + 1 := by rw [jI_1, jI_add (by omega)]
    have hB := cE_X1_takeCredits_2 (n + 31) (some b) (nI s') M
    rw [if_neg c4] at hB
    replace hB := hB.trans (q_ste (b := n + 11) (by rw [s_129_31 J.1]; rfl))
    replace hB := hB.trans (q_ste (b := n + 11) (by rw [s_129_31 J.1]; rfl))
    replace hB := hB.trans (q_ste (b := n + (12 + 4 * s')) (by rw [jI_N (by omega), s_str J.1 hs4]; rfl))
    replace hB := hB.trans (q_ste (b := b) rfl)
    replace hB := hB.trans (q_ste (b := ee) (by rw [g3]; rfl))
    replace hB := hB.trans (q_ste (b := n + (12 + 4 * s')) (by rw [jI_N (by omega), s_str J.1 hs4]; rfl))
    rw [jI_N (by omega : s' < 2147483648), k4 s' hs4, j_s1156 J hs4] at hB
    have hQ := qE_hearsAck_184 (nI (15 * t')) (nI s') r
    have ei : (nI (15 * t') + 10 + nI s' : Int32).toNatClampNeg = 15 * t' + 10 + s' := by
      rw [show (10 : Int32) = nI 10 from rfl, jI_add (by omega), q_ix (by omega) (by omega)]
    rw [if_neg c4, ei, jI_N (by omega : s' < 2147483648), q_maxe] at hQ
    have hv : (r.2 68 s').toInt ≤ (if r.2 68 s' < r.2 61 (15 * t' + 10 + s') then r.2 61 (15 * t' + 10 + s') else r.2 68 s' : Int32).toInt := by
      by_cases c : r.2 68 s' < r.2 61 (15 * t' + 10 + s')
      · rw [if_pos c]
        rw [Int32.lt_iff_toInt_lt] at c
        omega
      · rw [if_neg c]; exact Int.le_refl _
    generalize (if r.2 68 s' < r.2 61 (15 * t' + 10 + s') then r.2 61 (15 * t' + 10 + s') else r.2 68 s' : Int32) = v at hB hQ hv
    replace hQ := hQ.trans (q_ste2 (a := v) (b := r) rfl)
    replace hQ := hQ.trans (q_ste (b := ua r 68 s' v) rfl)
    replace hQ := hQ.trans (q_ste (b := nI (s' + 1)) e1)
    have J1 := j_ssa (g := 1156) (x := 68) (v := v) J hs4 (by decide) (by decide)
    have H1 : hA n M (z_sfi M 1156 (n + (12 + 4 * s')) v) := hA_f (hA_r J.1) (by decide)
    replace hB := hB.trans (q_ste (b := z_sfi M 1156 (n + (12 + 4 * s')) v) rfl)
    replace hB := hB.trans (q_ste (b := nI (s' + 1)) e1)
    have h1' : kI t s q z (ua r 68 s' v) := ⟨rI_a h.1 (by decide), kP_68 h.2 hv⟩
    have F1 : kFC r (ua r 68 s' v) := q_frua (by decide) q_fr0
    have A1 : j_ack n (z_sfi M 1156 (n + (12 + 4 * s')) v) (ua r 68 s' v) b t' := A0.cA H1 (ua_n (by decide))
    obtain ⟨M', r', z1, z2, z3, z4, z5⟩ := ih (s' + 1) _ _ (by omega) J1 h1' A1
    exact ⟨M', r', z1, z2, q_frt F1 z3, (cUl_X1_takeCredits_2 hB).trans z4, (qUl_hearsAck_184 hQ).trans z5⟩
/-- what an ACK leaves alone -/
def kFA (r r1 : q_R) : Prop := q_fr [1585, 1589] [68, 69, 70, 76, 84, 85, 87, 88, 89, 90, 91, 94, 96, 97, 98, 99, 100, 101, 102, 103, 104, 106] r r1
theorem q_ha271 (h : kI t s q z r) (h2 : kI t s q z (qF_losesByTime 0 (qF_losesByOrder 0 r))) : qF_hearsAck_271 0 r = qF_losesByTime 0 (qF_losesByOrder 0 r) := by
  have hB := qE_hearsAck_271 0 r
  rw [if_neg (by decide)] at hB
  replace hB := hB.trans (q_ste rfl)
  replace hB := hB.trans (q_ste (b := qF_losesByTime 0 (qF_losesByOrder 0 r)) rfl)
  replace hB := hB.trans (q_ste (b := (1 : Int32)) rfl)
  rw [qUl_hearsAck_271 hB]
  generalize qF_losesByTime 0 (qF_losesByOrder 0 r) = R at h2
  have hC := qE_hearsAck_271 1 R
  rw [if_neg (by decide), q_byO1 h2] at hC
  replace hC := hC.trans (q_ste (b := R) rfl)
  rw [q_byT1 h2] at hC
  replace hC := hC.trans (q_ste (b := R) rfl)
  replace hC := hC.trans (q_ste (b := (2 : Int32)) rfl)
  rw [qUl_hearsAck_271 hC]
  have hD := qE_hearsAck_271 2 R
  rw [if_pos (by decide)] at hD
  exact qUr_hearsAck_271 hD
theorem q_ha248 : qF_hearsAck_248 0 r = qF_hearsAck_271 0 (ua (ua r 96 0 0) 96 1 0) := by
  have hB := qE_hearsAck_248 0 r
  rw [if_neg (by decide)] at hB
  replace hB := hB.trans (q_ste (b := ua r 96 0 0) rfl)
  replace hB := hB.trans (q_ste (b := (1 : Int32)) rfl)
  rw [qUl_hearsAck_248 hB]
  have hC := qE_hearsAck_248 1 (ua r 96 0 0)
  rw [if_neg (by decide)] at hC
  replace hC := hC.trans (q_ste (b := ua (ua r 96 0 0) 96 1 0) rfl)
  replace hC := hC.trans (q_ste (b := (2 : Int32)) rfl)
  rw [qUl_hearsAck_248 hC]
  have hD := qE_hearsAck_248 2 (ua (ua r 96 0 0) 96 1 0)
  rw [if_pos (by decide)] at hD
  exact qUr_hearsAck_248 hD
theorem j_ha109 {b t' : Nat} (ht : t' < 3600) (J : JJ n M r TL CL) (h : kI t s q z r) (A : j_ack n M r b t') : JJ n (cF_X1_hearAck_109 (n + 31) (some b) M) (qF_hearsAck_181 (nI (15 * t')) r) TL CL ∧ kI t s q z (qF_hearsAck_181 (nI (15 * t')) r) ∧ kFA r (qF_hearsAck_181 (nI (15 * t')) r) ∧ (qF_hearsAck_181 (nI (15 * t')) r).2 91 = r.2 91 := by
  obtain ⟨M', r', z1, z2, z3, z4, z5⟩ := j_cr ht 4 0 M r rfl J h A
  have hQ := qE_hearsAck_181 (nI (15 * t')) r
  rw [jI_0] at hQ
  replace hQ := (hQ.trans z5).trans q_ha248
  have h3 : kI t s q z (ua (ua r' 96 0 0) 96 1 0) := kI_ua (kI_ua z2 (by decide) (by decide)) (by decide) (by decide)
  have F3 : kFA r (ua (ua r' 96 0 0) 96 1 0) := q_frua (by decide) (q_frua (by decide) (q_frw z3 (by decide) (by decide)))
  have f91 : (ua (ua r' 96 0 0) 96 1 0).2 91 = r.2 91 := by rw [ua_n (by decide), ua_n (by decide)]; exact z3.2 91 (by decide)
  have hB := cE_X1_hearAck_109 (n + 31) (some b) M
  have hC := cE_X1_takeCredits (n + 31) (some b) M
  rw [jI_0] at hC
  rw [hC.trans z4] at hB
  replace hB := hB.trans (q_ste (b := M') rfl)
  replace hB := hB.trans (q_ste (b := n + 32) (by rw [s_130_31 z1.1]; rfl))
  have J15 := z1.sa (M1 := z_sfi M' 910 (n + 32) 0) (x := 96) (j := 0) rfl (by decide) (by decide)
  replace hB := hB.trans (q_ste (b := z_sfi M' 910 (n + 32) 0) rfl)
  generalize z_sfi M' 910 (n + 32) 0 = W at hB J15
  replace hB := hB.trans (q_ste (b := n + 35) (by rw [s_131_31 J15.1]; rfl))
  have J18 := J15.sa (M1 := z_sfi W 910 (n + 35) 0) (x := 96) (j := 1) rfl (by decide) (by decide)
  replace hB := hB.trans (q_ste (b := z_sfi W 910 (n + 35) 0) rfl)
  generalize z_sfi W 910 (n + 35) 0 = V at hB J18
  rw [s_130_31 J18.1] at hB
  obtain ⟨J20, h20, F20⟩ := j_findOT J18 h3
  replace hB := hB.trans (q_ste rfl)
  rw [s_131_31 J20.1] at hB
  have J22 := j_findL1 (x2 := 1) J20 h20
  replace hB := hB.trans (q_ste rfl)
  rw [hB]
  rw [hQ, q_ha271 h3 h20]
  refine ⟨J22, h20, q_frt F3 (q_frw F20 (by decide) (by decide)), ?_⟩
  rw [F20.2 91 (by decide)]; exact f91
end JHC
