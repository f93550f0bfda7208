/-! ===== THE LIKENESS: bytes land, are acknowledged, take off ===== -/
section JLN
variable {n : Nat} {M M0 M1 M2 : z_Mem} {r r1 a b c : q_R} {TL CL : List Nat} {t s q z : Nat} {d : Int} {f g : Nat → Int32}
def rO (f : Nat → Int32) (lo m : Nat) (v : Int32) : Nat → Int32 := fun j => if lo ≤ j ∧ j < lo + m then f j + v else f j
theorem rO_0 {lo : Nat} {v : Int32} : rO f lo 0 v = f := funext fun j => if_neg (by omega)
theorem uA_rO {x lo m : Nat} {v : Int32} : uA (ua r x lo (r.2 x lo + v)) x (rO ((ua r x lo (r.2 x lo + v)).2 x) (lo + 1) m v) = uA r x (rO (r.2 x) lo (m + 1) v) := by
  refine Prod.ext rfl (funext fun y => ?_)
  by_cases h : y = x
  · subst h
    rw [uA_e, uA_e]
    funext j
    unfold rO
    by_cases c : j = lo
    · subst c
      rw [if_neg (by omega), ua_e, if_pos (by omega)]
    · by_cases c2 : lo + 1 ≤ j ∧ j < lo + 1 + m
      · rw [if_pos c2, if_pos (by omega), ua_i c]
      · rw [if_neg c2, if_neg (by omega), ua_i c]
  · rw [uA_n h, uA_n h, ua_n h]
theorem uA_rS {x lo m : Nat} {v : Int32} : uA (ua r x lo v) x (rS ((ua r x lo v).2 x) (lo + 1) m v) = uA r x (rS (r.2 x) lo (m + 1) v) := by
  refine Prod.ext rfl (funext fun y => ?_)
  by_cases h : y = x
  · subst h
    rw [uA_e, uA_e]
    funext j
    unfold rS
    by_cases c : j = lo
    · subst c
      rw [if_neg (by omega), ua_e, if_pos (by omega)]
    · by_cases c2 : lo + 1 ≤ j ∧ j < lo + 1 + m
      · rw [if_pos c2, if_pos (by omega)]
      · rw [if_neg c2, if_neg (by omega), ua_i c]
  · rw [uA_n h, uA_n h, ua_n h]
theorem c_isLost (S : y_S n M) {s j : Nat} (hs : s < 4) (hj : j < 200) {sv av fv : Int32} (e1 : z_fi M 1153 (n + (12 + 4 * s)) = sv) (e2 : z_ai M (n + (13 + 4 * s)) j = av) (e3 : z_ai M (n + (14 + 4 * s)) j = fv) : cF_X9_isLost (n + (12 + 4 * s)) (nI j) M = (if ((j : Int) < sv.toInt ∧ av = 0 ∧ fv = 0) then 1 else 0, M) := by
  have F := j_sfr S hs
  rw [cE_X9_isLost, if_neg (jI_nlt0 (by omega)), e1]
  by_cases c1 : sv ≤ nI j
  · rw [if_pos c1, if_neg]
    have := i_le c1 rfl (jI_t (by omega))
    omega
  · have c1' := i_nle c1 rfl (jI_t (k := j) (by omega))
    rw [if_neg c1, if_neg (fun h => by have := i_le h (show (200 : Int32).toInt = 200 from rfl) (jI_t (k := j) (by omega)); omega), F.1]
    refine (q_ste (b := n + (13 + 4 * s)) rfl).trans ?_
    rw [jI_N (by omega), e2]
    by_cases c2 : av = 0
    · rw [if_pos c2, F.2.1]
      refine (q_ste (b := n + (14 + 4 * s)) rfl).trans ?_
      rw [e3]
      by_cases c3 : fv = 0
      · rw [if_pos c3, if_pos ⟨by omega, c2, c3⟩]
      · rw [if_neg c3, if_neg (fun h => c3 h.2.2)]
    · rw [if_neg c2, if_neg (fun h => c2 h.2.1)]
theorem j_lo (J : JJ n M r TL CL) {s : Nat} (hs : s < 4) : z_fi M 1153 (n + (12 + 4 * s)) = r.2 67 s ∧ z_fi M 1155 (n + (12 + 4 * s)) = nI (rf_c (j_lost r s) 200) := by
  refine ⟨?_, J.2.2.2.1.2.2.2.1 s hs⟩
  rcases jl4 hs with rfl | rfl | rfl | rfl
  · exact js_1153_12 J
  · exact js_1153_16 J
  · exact js_1153_20 J
  · exact js_1153_24 J
theorem j_lost_ne {s j i x : Nat} {v : Int32} (hx : x = 69 ∨ x = 70) (h : i ≠ j) : j_lost (ua r x (200 * s + j) v) s i = j_lost r s i := by
  unfold j_lost
  have h67 : (ua r x (200 * s + j) v).2 67 = r.2 67 := ua_n (by omega)
  rw [h67, ua2, if_neg (show ¬ 200 * s + i = 200 * s + j by omega), ite_self, ua2, if_neg (show ¬ 200 * s + i = 200 * s + j by omega), ite_self]
/-- the count behind a byte's change -/
theorem j_cnt {s j x : Nat} {v : Int32} (hx : x = 69 ∨ x = 70) (hj : j < 200) : (j_lost r s j = false → j_lost (ua r x (200 * s + j) v) s j = false → rf_c (j_lost (ua r x (200 * s + j) v) s) 200 = rf_c (j_lost r s) 200) ∧ (j_lost r s j = true → j_lost (ua r x (200 * s + j) v) s j = false → rf_c (j_lost (ua r x (200 * s + j) v) s) 200 + 1 = rf_c (j_lost r s) 200) ∧ (j_lost r s j = false → j_lost (ua r x (200 * s + j) v) s j = true → rf_c (j_lost r s) 200 + 1 = rf_c (j_lost (ua r x (200 * s + j) v) s) 200) := by
  refine ⟨fun h1 h2 => rf_c_eq 200 (fun i hi => ?_), fun h1 h2 => rf_c_off h1 h2 200 hj (fun i hi h => j_lost_ne hx h), fun h1 h2 => rf_c_off h2 h1 200 hj (fun i hi h => (j_lost_ne hx h).symm)⟩
  by_cases h : i = j
  · rw [h, h1, h2]
  · exact j_lost_ne hx h
theorem j_clt {p : Nat → Bool} : rf_c p 200 ≤ 200 := rf_c_le 200
theorem j_dec {k : Nat} (h : k < 2147483647) : nI (k + 1) - 1 = nI k := j_m1 (by omega)
theorem j_inc {k : Nat} (h : k < 2147483647) : nI k + 1 = nI (k + 1) := by rw [jI_1, jI_add (by show k + 1 < _; omega)]
/-- a byte lands -/
theorem j_land1 (J : JJ n M r TL CL) {s j : Nat} (hs : s < 4) (hj : j < 200) (h : j_lost r s j = false) : ∃ M', (∀ x1 x2 : Int32, ¬ x1 + x2 ≤ nI j → cB_X9_land_6 (n + (12 + 4 * s)) x1 x2 (nI j) M = .inl (x1, x2, nI (j + 1), M')) ∧ JJ n M' (ua r 70 (200 * s + j) (r.2 70 (200 * s + j) - 1)) TL CL := by
  have F := j_sfr J.1 hs
  have R := j_rows J hs hj
  have L := j_lo J hs
  have hcnt := j_cnt (r := r) (s := s) (j := j) (x := 70) (v := r.2 70 (200 * s + j) - 1) (Or.inr rfl) hj
  have S8 : y_S n (z_sai M (n + (14 + 4 * s)) j (r.2 70 (200 * s + j) - 1)) := S_sai J.1
  have lost := c_isLost S8 hs hj (sv := r.2 67 s) (av := r.2 69 (200 * s + j)) (fv := r.2 70 (200 * s + j) - 1) L.1 (by rw [zq_ai_sai, if_neg (by omega)]; exact R.1) (by rw [zq_ai_sai, if_pos rfl, if_pos rfl])
  have le : j_lost (ua r 70 (200 * s + j) (r.2 70 (200 * s + j) - 1)) s j = decide ((j : Int) < (r.2 67 s).toInt ∧ r.2 69 (200 * s + j) = 0 ∧ r.2 70 (200 * s + j) - 1 = 0) := by
    unfold j_lost
    rw [ua_n (show 67 ≠ 70 by decide), ua_n (show 69 ≠ 70 by decide), ua_e]
  have hB : ∀ x1 x2 : Int32, ¬ x1 + x2 ≤ nI j → cB_X9_land_6 (n + (12 + 4 * s)) x1 x2 (nI j) M = (if (if ((j : Int) < (r.2 67 s).toInt ∧ r.2 69 (200 * s + j) = 0 ∧ r.2 70 (200 * s + j) - 1 = 0) then (1 : Int32) else 0) = 0 then .inl (x1, x2, nI (j + 1), z_sai M (n + (14 + 4 * s)) j (r.2 70 (200 * s + j) - 1)) else .inl (x1, x2, nI (j + 1), z_sfi (z_sai M (n + (14 + 4 * s)) j (r.2 70 (200 * s + j) - 1)) 1155 (n + (12 + 4 * s)) (nI (rf_c (j_lost r s) 200) + 1))) := fun x1 x2 hx => by
    rw [cE_X9_land_6, if_neg hx, if_neg (fun g => by have := i_le g (show (200 : Int32).toInt = 200 from rfl) (jI_t (k := j) (by omega)); omega), F.2.1]
    refine (q_ste (b := n + (14 + 4 * s)) rfl).trans ?_
    rw [jI_N (by omega), R.2.1]
    refine (q_ste rfl).trans ?_
    refine (q_ste2 lost).trans ?_
    have e48 : ∀ N, cF_X9_land_48 (n + (12 + 4 * s)) x1 x2 (nI j) N = .inl (x1, x2, nI (j + 1), N) := fun N => by rw [cE_X9_land_48]; exact q_ste (j_inc (by omega)).symm
    rw [e48, zq_fi_sai, L.2]
    by_cases c : ((j : Int) < (r.2 67 s).toInt ∧ r.2 69 (200 * s + j) = 0 ∧ r.2 70 (200 * s + j) - 1 = 0)
    · rw [if_pos c, if_neg (by decide), if_neg (by decide)]; exact (q_ste rfl).trans (e48 _)
    · rw [if_neg c, if_pos rfl, if_pos rfl]
  have hc := j_clt (p := j_lost r s)
  by_cases c : ((j : Int) < (r.2 67 s).toInt ∧ r.2 69 (200 * s + j) = 0 ∧ r.2 70 (200 * s + j) - 1 = 0)
  · refine ⟨_, fun x1 x2 hx => by rw [hB x1 x2 hx, if_pos c, if_neg (by decide)], ?_⟩
    refine J.byte hs hj (Or.inr ⟨rfl, rfl⟩) (S_sfi S8) rfl rfl rfl (fun k y h => ?_) (fun y i => ?_) ?_
    · rw [zq_fi_sfi]
      by_cases ck : k = 1155
      · rw [if_pos ck, if_neg (fun e => h ⟨Or.inl ck, e⟩)]; rfl
      · rw [if_neg ck]; rfl
    · rw [zq_ai_sfi, zq_ai_sai]
    · rw [zq_fi_sfi, if_pos rfl, if_pos rfl, j_inc (by omega), hcnt.2.2 h (by rw [le, decide_eq_true_eq]; exact c)]
  · refine ⟨_, fun x1 x2 hx => by rw [hB x1 x2 hx, if_neg c, if_pos rfl], ?_⟩
    refine J.byte hs hj (Or.inr ⟨rfl, rfl⟩) S8 rfl rfl rfl (fun k y h => rfl) (fun y i => by rw [zq_ai_sai]) ?_
    rw [hcnt.1 h (by rw [le]; exact decide_eq_false c)]
    exact L.2
theorem j_land6 {s a m : Nat} (hs : s < 4) (ham : a + m ≤ 200) : ∀ k' k (M : z_Mem) (r : q_R), k + k' = m → JJ n M r TL CL → (∀ j, a + k ≤ j → j < a + m → j_lost r s j = false) → JJ n (cF_X9_land_6 (n + (12 + 4 * s)) (nI a) (nI m) (nI (a + k)) M) (uA r 70 (rO (r.2 70) (200 * s + (a + k)) k' (-1))) TL CL := by
  intro k'
  induction k' with
  | zero =>
    intro k M r hk J _
    have hB := cE_X9_land_6 (n + (12 + 4 * s)) (nI a) (nI m) (nI (a + k)) M
    rw [jI_add (by omega), if_pos ((jI_le (by omega) (by omega)).mpr (by omega))] at hB
    rw [cUr_X9_land_6 hB, rO_0, uA_id]
    exact J
  | succ k' ih =>
    intro k M r hk J hl
    obtain ⟨M', g1, g2⟩ := j_land1 J hs (j := a + k) (by omega) (hl (a + k) (by omega) (by omega))
    rw [cUl_X9_land_6 (g1 (nI a) (nI m) (by rw [jI_add (by omega)]; exact fun h => absurd ((jI_le (by omega) (by omega)).mp h) (by omega)))]
    have := ih (k + 1) M' _ (by omega) g2 (fun j h1 h2 => by rw [j_lost_ne (Or.inr rfl) (by omega)]; exact hl j (by omega) h2)
    rw [show a + (k + 1) = a + k + 1 from by omega] at this
    rw [← uA_rO]
    rw [show 200 * s + (a + k + 1) = 200 * s + (a + k) + 1 from by omega, Int32.sub_eq_add_neg] at this
    exact this
theorem j_landF (J : JJ n M r TL CL) {s a m : Nat} (hs : s < 4) (ham : a + m ≤ 200) (hl : ∀ j, a ≤ j → j < a + m → j_lost r s j = false) : JJ n (cF_X9_land (n + (12 + 4 * s)) (nI a) (nI m) M) (uA r 70 (rO (r.2 70) (200 * s + a) m (-1))) TL CL := by
  rw [cE_X9_land, jI_max0 (by omega)]
  have := j_land6 hs ham m 0 M r (by omega) J hl
  exact this
end JLN
