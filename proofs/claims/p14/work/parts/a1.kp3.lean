/-! ===== THE LIKENESS: what the client keeps to, behind growth ===== -/
section KPG
variable {n : Nat} {M M0 M1 M2 : z_Mem} {r r1 r2 : q_R} {TL CL : List Nat} {t s q z : Nat} {f g : Nat → Int32}
theorem jmx_le {B : Int} (h : ∀ i, i < 8 → (f i).toInt ≤ B) : ∀ (m k : Nat) (a : Int32), k + m = 8 → 0 ≤ a.toInt → a.toInt ≤ B → 0 ≤ (jmx f m k a).toInt ∧ (jmx f m k a).toInt ≤ B := by
  intro m
  induction m with
  | zero => intro k a _ h0 h1; exact ⟨h0, h1⟩
  | succ m ih =>
    intro k a hk h0 h1
    have hk8 := h k (by omega)
    rw [jmx]
    by_cases c : a < f k
    · rw [if_pos c]
      rw [Int32.lt_iff_toInt_lt] at c
      exact ih (k + 1) _ (by omega) (by omega) hk8
    · rw [if_neg c]
      exact ih (k + 1) _ (by omega) h0 h1
/-- growth, as cells -/
theorem q_growsE {i : Nat} (hi : i < 400) (hp : r.2 71 i = 0) (h103 : 0 ≤ (r.2 103 0).toInt) (h103b : (r.2 103 0).toInt ≤ 400000000) : ∃ W, (r.2 86 0 = 2 → ∃ w k, qF_grows (nI i) r = ua (ua (ua (ua r 97 0 (r.2 97 0 + 1)) 98 k w) 99 0 (r.2 99 0 + 1)) 84 0 W ∧ w = (16 * (r.2 97 0 + 1 - r.2 83 i)) / (if 1 < r.1 1536 - r.2 72 i then r.1 1536 - r.2 72 i else 1 : Int32) ∧ W = (if 64 < 2 * jmx ((ua r 98 k w).2 98) 8 0 0 * r.2 89 0 then 2 * jmx ((ua r 98 k w).2 98) 8 0 0 * r.2 89 0 else 64 : Int32)) ∧ (¬ r.2 86 0 = 2 → qF_grows (nI i) r = ua (ua r 97 0 (r.2 97 0 + 1)) 84 0 W ∧ (¬ r.2 85 0 ≤ r.2 84 0 → W = r.2 84 0 + 16)) := by
  have e0 : (0 : Int32).toNatClampNeg = 0 := rfl
  have hB := qE_grows (nI i) r
  rw [jI_N (by omega : i < 2147483648), hp] at hB
  replace hB := hB.trans (q_ste (b := 0) rfl)
  rw [e0] at hB
  replace hB := hB.trans (q_ste (b := ua r 97 0 (r.2 97 0 + 1)) rfl)
  have c0 : (ua r 97 0 (r.2 97 0 + 1)).1 1536 = r.1 1536 := rfl
  have c1 : ∀ k, k ≠ 97 → (ua r 97 0 (r.2 97 0 + 1)).2 k = r.2 k := fun k h => ua_n h
  have c9 : (ua r 97 0 (r.2 97 0 + 1)).2 97 0 = r.2 97 0 + 1 := ua_e
  rw [c1 86 (by decide)] at hB
  by_cases c2 : r.2 86 0 = 2
  · rw [if_pos c2] at hB
    rw [q_maxe, c0, c1 72 (by decide)] at hB
    generalize hm : (if 1 < r.1 1536 - r.2 72 i then r.1 1536 - r.2 72 i else 1 : Int32) = m at hB
    replace hB := hB.trans (q_ste2 (a := m) (b := ua r 97 0 (r.2 97 0 + 1)) rfl)
    rw [c9, c1 83 (by decide)] at hB
    generalize hw : (16 * (r.2 97 0 + 1 - r.2 83 i)) / m = w at hB
    replace hB := hB.trans (q_ste (b := w) rfl)
    rw [c1 99 (by decide)] at hB
    generalize ((8 * 0 + (r.2 99 0 - r.2 99 0 / 8 * 8) : Int32)).toNatClampNeg = k at hB
    replace hB := hB.trans (q_ste (b := ua (ua r 97 0 (r.2 97 0 + 1)) 98 k w) rfl)
    replace hB := hB.trans (q_ste (b := ua (ua (ua r 97 0 (r.2 97 0 + 1)) 98 k w) 99 0 (r.2 99 0 + 1)) (by rw [ua_n (show 99 ≠ 98 by decide), c1 99 (by decide)]))
    rw [show (0 : Int32) = nI 0 from rfl] at hB
    replace hB := hB.trans (q_gr96 8 0 (nI 0) rfl)
    have k98 : (ua (ua (ua r 97 0 (r.2 97 0 + 1)) 98 k w) 99 0 (r.2 99 0 + 1)).2 98 = (ua r 98 k w).2 98 := by
      rw [ua_n (by decide)]
      funext j
      by_cases cj : j = k
      · rw [cj, ua_e, ua_e]
      · rw [ua_i cj, ua_i cj, c1 98 (by decide)]
    have k89 : (ua (ua (ua r 97 0 (r.2 97 0 + 1)) 98 k w) 99 0 (r.2 99 0 + 1)).2 89 = r.2 89 := by
      rw [ua_n (by decide), ua_n (by decide), c1 89 (by decide)]
    exact ⟨_, fun _ => ⟨w, k, hB, rfl, by rw [k98, k89]; rfl⟩, fun h => absurd c2 h⟩
  · rw [if_neg c2] at hB
    rw [c1 85 (by decide), c1 84 (by decide)] at hB
    by_cases c3 : r.2 85 0 ≤ r.2 84 0
    · rw [if_pos c3] at hB
      by_cases c4 : r.2 86 0 = 0
      · rw [if_pos c4, q_maxe] at hB
        generalize (if 1 < 256 / r.2 84 0 then 256 / r.2 84 0 else 1 : Int32) = m at hB
        replace hB := hB.trans (q_ste2 (a := m) (b := ua r 97 0 (r.2 97 0 + 1)) rfl)
        exact ⟨_, fun h => absurd h c2, fun _ => ⟨hB.trans (q_ste rfl), fun h => absurd c3 h⟩⟩
      · rw [if_neg c4] at hB
        obtain ⟨v, k1, -⟩ := q_cubeC (r := ua r 97 0 (r.2 97 0 + 1)) (r1 := ua r 97 0 (r.2 97 0 + 1)) rfl rfl rfl rfl (by rw [c1 103 (by decide)]; exact h103) (by rw [c1 103 (by decide)]; exact h103b)
        replace hB := hB.trans (q_ste2 k1)
        exact ⟨_, fun h => absurd h c2, fun _ => ⟨hB.trans (q_ste rfl), fun h => absurd c3 h⟩⟩
    · rw [if_neg c3] at hB
      exact ⟨_, fun h => absurd h c2, fun _ => ⟨hB.trans (q_ste rfl), fun _ => rfl⟩⟩
theorem k_rate {x y d : Int32} (h0 : 0 ≤ x.toInt) (h1 : x.toInt < 400) (h2 : 0 ≤ y.toInt) (h3 : y.toInt ≤ 400) (h4 : 2 ≤ d.toInt) : ((16 * (x + 1 - y)) / (if 1 < d then d else 1 : Int32)).toInt ≤ 3200 := by
  rw [if_pos (by rw [Int32.lt_iff_toInt_lt, show (1 : Int32).toInt = 1 from rfl]; omega)]
  have e1 : (x + 1).toInt = x.toInt + 1 := i_addE rfl (show (1 : Int32).toInt = 1 from rfl) (by omega) (by omega)
  have e2 : (x + 1 - y).toInt = x.toInt + 1 - y.toInt := i_subE e1 rfl (by omega) (by omega)
  have e3 : (16 * (x + 1 - y)).toInt = 16 * (x.toInt + 1 - y.toInt) := i_mulE (show (16 : Int32).toInt = 16 from rfl) e2 (by omega) (by omega)
  generalize hA : 16 * (x.toInt + 1 - y.toInt) = a at e3
  have hdl := Int32.toInt_lt d
  have tb := i_tdivB (a := a) (d := d.toInt) (B := 6400) (by omega) (by omega) (by omega)
  rw [Int32.toInt_div, e3, Int.bmod_eq_of_le (by omega) (by omega)]
  by_cases ca : a ≤ 0
  · have := i_tdivN ca (b := d.toInt) (by omega)
    omega
  · rw [Int.tdiv_eq_ediv_of_nonneg (by omega)]
    have g0 : 0 ≤ a / d.toInt := Int.ediv_nonneg (by omega) (by omega)
    have g1 : a / d.toInt * d.toInt ≤ a := Int.ediv_mul_le a (by omega)
    have g2 : a / d.toInt * 2 ≤ a / d.toInt * d.toInt := Int.mul_le_mul_of_nonneg_left h4 g0
    omega
theorem kP_grows {i : Nat} (h : kP r) (hi : i < 400) (hp : r.2 71 i = 0) (h97 : 0 ≤ (r.2 97 0).toInt) (h97b : (r.2 97 0).toInt < 400) (h83 : 0 ≤ (r.2 83 i).toInt) (h83b : (r.2 83 i).toInt ≤ 400) (h89 : 0 ≤ (r.2 89 0).toInt) (h84 : 0 ≤ (r.2 84 0).toInt) (hn : 0 ≤ (r.2 72 i).toInt ∧ (r.2 72 i).toInt + 2 ≤ (r.1 1536).toInt) (hnow : (r.1 1536).toInt ≤ 2000) (h103 : 0 ≤ (r.2 103 0).toInt) (h103b : (r.2 103 0).toInt ≤ 400000000) : kP (qF_grows (nI i) r) := by
  obtain ⟨W, g1, g2⟩ := q_growsE hi hp h103 h103b
  obtain ⟨a, b, c, ⟨d1, d2, d3, d4⟩⟩ := h
  have e1 : (r.2 97 0 + 1).toInt = (r.2 97 0).toInt + 1 := i_addE rfl (show (1 : Int32).toInt = 1 from rfl) (by omega) (by omega)
  by_cases c2 : r.2 86 0 = 2
  · obtain ⟨w, k, E, ew, eW⟩ := g1 c2
    have hf : ∀ x, x ≠ 97 → x ≠ 98 → x ≠ 99 → x ≠ 84 → (qF_grows (nI i) r).2 x = r.2 x := fun x h1 h2 h3 h4 => by rw [E, ua_n h4, ua_n h3, ua_n h2, ua_n h1]
    have hf1 : (qF_grows (nI i) r).1 = r.1 := by rw [E]; rfl
    have k97 : (qF_grows (nI i) r).2 97 0 = r.2 97 0 + 1 := by rw [E, ua_n (by decide), ua_n (by decide), ua_n (by decide), ua_e]
    have k84 : (qF_grows (nI i) r).2 84 0 = W := by rw [E, ua_e]
    have k98 : ∀ j, (qF_grows (nI i) r).2 98 j = (ua r 98 k w).2 98 j := fun j => by
      rw [E, ua_n (by decide), ua_n (by decide)]
      by_cases cj : j = k
      · rw [cj, ua_e, ua_e]
      · rw [ua_i cj, ua_i cj, ua_n (by decide)]
    generalize qF_grows (nI i) r = R at hf hf1 k97 k84 k98
    have hd : (r.1 1536 - r.2 72 i).toInt = (r.1 1536).toInt - (r.2 72 i).toInt := i_subE rfl rfl (by omega) (by omega)
    have hw : w.toInt ≤ 3200 := by rw [ew]; exact k_rate h97 h97b h83 h83b (by rw [hd]; omega)
    have h98 : ∀ j, j < 8 → ((ua r 98 k w).2 98 j).toInt ≤ 3200 := fun j hj => by
      rw [ua2, if_pos rfl]
      by_cases cj : j = k
      · rw [if_pos cj]; exact hw
      · rw [if_neg cj]; exact d2 j hj
    have hm := jmx_le h98 8 0 0 rfl (by decide) (by decide)
    generalize jmx ((ua r 98 k w).2 98) 8 0 0 = mx at hm eW
    have e2 : (2 * mx).toInt = 2 * mx.toInt := i_mulE (show (2 : Int32).toInt = 2 from rfl) rfl (by omega) (by omega)
    have p1 : 0 ≤ 2 * mx.toInt * (r.2 89 0).toInt := Int.mul_nonneg (by omega) h89
    have p2 : 2 * mx.toInt * (r.2 89 0).toInt ≤ 2 * mx.toInt * 140 := Int.mul_le_mul_of_nonneg_left d3 (by omega)
    have e3 : (2 * mx * r.2 89 0).toInt = 2 * mx.toInt * (r.2 89 0).toInt := i_mulE e2 rfl (by omega) (by omega)
    have hW : W.toInt ≤ 896000 := by
      rw [eW]
      by_cases cw : 64 < 2 * mx * r.2 89 0
      · rw [if_pos cw, e3]; omega
      · rw [if_neg cw]; decide
    refine ⟨kA_c (r := r) (fun _ _ => by rw [hf1]) (fun x hx => hf x (by revert hx; revert x; decide) (by revert hx; revert x; decide) (by revert hx; revert x; decide) (by revert hx; revert x; decide)) a, kB_c (r := r) (fun _ _ => by rw [hf1]) (fun x hx => hf x (by revert hx; revert x; decide) (by revert hx; revert x; decide) (by revert hx; revert x; decide) (by revert hx; revert x; decide)) b, kC_c (r := r) (fun _ _ => by rw [hf1]) (fun x hx => hf x (by revert hx; revert x; decide) (by revert hx; revert x; decide) (by revert hx; revert x; decide) (by revert hx; revert x; decide)) c, ⟨?_, ?_, ?_, ?_⟩⟩
    · intro hz
      rw [hf 100 (by decide) (by decide) (by decide) (by decide)] at hz
      rw [hf 85 (by decide) (by decide) (by decide) (by decide), k84, k97]
      exact ⟨(d1 hz).1, by omega⟩
    · intro j hj; rw [k98]; exact h98 j hj
    · rw [hf 89 (by decide) (by decide) (by decide) (by decide)]; exact d3
    · rw [hf 103 (by decide) (by decide) (by decide) (by decide), hf 68 (by decide) (by decide) (by decide) (by decide)]; exact d4
  · obtain ⟨E, eW⟩ := g2 c2
    have hf : ∀ x, x ≠ 97 → x ≠ 84 → (qF_grows (nI i) r).2 x = r.2 x := fun x h1 h4 => by rw [E, ua_n h4, ua_n h1]
    have hf1 : (qF_grows (nI i) r).1 = r.1 := by rw [E]; rfl
    have k97 : (qF_grows (nI i) r).2 97 0 = r.2 97 0 + 1 := by rw [E, ua_n (by decide), ua_e]
    have k84 : (qF_grows (nI i) r).2 84 0 = W := by rw [E, ua_e]
    generalize qF_grows (nI i) r = R at hf hf1 k97 k84
    refine ⟨kA_c (r := r) (fun _ _ => by rw [hf1]) (fun x hx => hf x (by revert hx; revert x; decide) (by revert hx; revert x; decide)) a, kB_c (r := r) (fun _ _ => by rw [hf1]) (fun x hx => hf x (by revert hx; revert x; decide) (by revert hx; revert x; decide)) b, kC_c (r := r) (fun _ _ => by rw [hf1]) (fun x hx => hf x (by revert hx; revert x; decide) (by revert hx; revert x; decide)) c, ⟨?_, ?_, ?_, ?_⟩⟩
    · intro hz
      rw [hf 100 (by decide) (by decide)] at hz
      obtain ⟨x1, x2⟩ := d1 hz
      have e16 : (r.2 84 0 + 16).toInt = (r.2 84 0).toInt + 16 := i_addE rfl (show (16 : Int32).toInt = 16 from rfl) (by omega) (by omega)
      have hW := eW (fun hle => by
        rw [x1, Int32.le_iff_toInt_le, show (999999 : Int32).toInt = 999999 from rfl] at hle
        omega)
      rw [hf 85 (by decide) (by decide), k84, k97, hW]
      exact ⟨x1, by omega⟩
    · rw [hf 98 (by decide) (by decide)]; exact d2
    · rw [hf 89 (by decide) (by decide)]; exact d3
    · rw [hf 103 (by decide) (by decide), hf 68 (by decide) (by decide)]; exact d4
/-- what growth leaves alone -/
theorem q_growsF {i : Nat} (hi : i < 400) (hp : r.2 71 i = 0) (h103 : 0 ≤ (r.2 103 0).toInt) (h103b : (r.2 103 0).toInt ≤ 400000000) : q_fr [] [84, 97, 98, 99] r (qF_grows (nI i) r) := by
  obtain ⟨W, g1, g2⟩ := q_growsE hi hp h103 h103b
  by_cases c2 : r.2 86 0 = 2
  · obtain ⟨w, k, E, -, -⟩ := g1 c2
    rw [E]
    exact q_frua (by decide) (q_frua (by decide) (q_frua (by decide) (q_frua (by decide) q_fr0)))
  · rw [(g2 c2).1]
    exact q_frua (by decide) (q_frua (by decide) q_fr0)
end KPG
