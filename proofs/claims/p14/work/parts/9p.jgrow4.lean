/-! ===== THE LIKENESS: the reference's growth and the greatest place commute ===== -/
section JG4
variable {n : Nat} {M M0 M1 M2 : z_Mem} {r r1 r2 : q_R} {TL CL : List Nat} {t s q z : Nat} {d : Int} {f g : Nat → Int32}
theorem q_grows94 {i : Nat} {x : Int32} (hi : i < 400) (hp : r.2 71 i = 0) (h103 : 0 ≤ (r.2 103 0).toInt) (h103b : (r.2 103 0).toInt ≤ 400000000) : qF_grows (nI i) (ua r 94 0 x) = ua (qF_grows (nI i) r) 94 0 x := by
  have e0 : (0 : Int32).toNatClampNeg = 0 := rfl
  have hB := qE_grows (nI i) r
  have hC := qE_grows (nI i) (ua r 94 0 x)
  rw [jI_N (by omega : i < 2147483648), hp] at hB
  rw [jI_N (by omega : i < 2147483648), ua_n (show 71 ≠ 94 by decide), hp] at hC
  replace hB := hB.trans (q_ste (b := 0) rfl)
  replace hC := hC.trans (q_ste (b := 0) rfl)
  rw [e0] at hB hC
  replace hB := hB.trans (q_ste (b := ua r 97 0 (r.2 97 0 + 1)) rfl)
  replace hC := hC.trans (q_ste (b := ua (ua r 97 0 (r.2 97 0 + 1)) 94 0 x) (by rw [ua_n (show 97 ≠ 94 by decide)]; exact ua_comm (by decide)))
  have k103 : (ua r 97 0 (r.2 97 0 + 1)).2 103 0 = r.2 103 0 := by rw [ua_n (by decide)]
  generalize ua r 97 0 (r.2 97 0 + 1) = a at hB hC k103
  have c1 : ∀ k, k ≠ 94 → (ua a 94 0 x).2 k = a.2 k := fun k h => ua_n h
  have c0 : (ua a 94 0 x).1 1536 = a.1 1536 := rfl
  rw [c1 86 (by decide)] at hC
  by_cases c2 : a.2 86 0 = 2
  · rw [if_pos c2] at hB hC
    rw [q_maxe] at hB
    rw [q_maxe, c0, c1 72 (by decide)] at hC
    generalize hm : (if 1 < a.1 1536 - a.2 72 i then a.1 1536 - a.2 72 i else 1 : Int32) = m at hB hC
    replace hB := hB.trans (q_ste2 (a := m) (b := a) rfl)
    replace hC := hC.trans (q_ste2 (a := m) (b := ua a 94 0 x) rfl)
    rw [c1 97 (by decide), c1 83 (by decide)] at hC
    generalize hw : (16 * (a.2 97 0 - a.2 83 i)) / m = w at hB hC
    replace hB := hB.trans (q_ste (b := w) rfl)
    replace hC := hC.trans (q_ste (b := w) rfl)
    rw [c1 99 (by decide)] at hC
    generalize ((8 * 0 + (a.2 99 0 - a.2 99 0 / 8 * 8) : Int32)).toNatClampNeg = k at hB hC
    replace hB := hB.trans (q_ste (b := ua a 98 k w) rfl)
    replace hB := hB.trans (q_ste (b := ua (ua a 98 k w) 99 0 (a.2 99 0 + 1)) (by rw [ua_n (show 99 ≠ 98 by decide)]))
    replace hC := hC.trans (q_ste (b := ua (ua a 98 k w) 94 0 x) (ua_comm (by decide)))
    replace hC := hC.trans (q_ste (b := ua (ua (ua a 98 k w) 99 0 (a.2 99 0 + 1)) 94 0 x) (by rw [ua_n (show 99 ≠ 94 by decide), ua_n (show 99 ≠ 98 by decide)]; exact ua_comm (by decide)))
    generalize ua (ua a 98 k w) 99 0 (a.2 99 0 + 1) = b at hB hC
    rw [show (0 : Int32) = nI 0 from rfl] at hB hC
    replace hB := hB.trans (q_gr96 8 0 (nI 0) rfl)
    replace hC := hC.trans (q_gr96 8 0 (nI 0) rfl)
    rw [hB, hC, ua_n (show 98 ≠ 94 by decide), ua_n (show 89 ≠ 94 by decide)]
    exact ua_comm (by decide)
  · rw [if_neg c2] at hB hC
    rw [c1 85 (by decide), c1 84 (by decide)] at hC
    by_cases c3 : a.2 85 0 ≤ a.2 84 0
    · rw [if_pos c3] at hB hC
      by_cases c4 : a.2 86 0 = 0
      · rw [if_pos c4, q_maxe] at hB hC
        generalize (if 1 < 256 / a.2 84 0 then 256 / a.2 84 0 else 1 : Int32) = m at hB hC
        replace hB := hB.trans (q_ste2 (a := m) (b := a) rfl)
        replace hC := hC.trans (q_ste2 (a := m) (b := ua a 94 0 x) rfl)
        replace hB := hB.trans (q_ste (b := ua a 84 0 (a.2 84 0 + m)) rfl)
        replace hC := hC.trans (q_ste (b := ua (ua a 94 0 x) 84 0 (a.2 84 0 + m)) rfl)
        rw [hB, hC]
        exact ua_comm (by decide)
      · rw [if_neg c4] at hB hC
        obtain ⟨v, k1, k2⟩ := q_cubeC (r := a) (r1 := ua a 94 0 x) rfl (by rw [ua_n (by decide)]) (by rw [ua_n (by decide)]) (by rw [ua_n (by decide)]) (by rw [k103]; exact h103) (by rw [k103]; exact h103b)
        replace hB := hB.trans (q_ste2 k1)
        replace hC := hC.trans (q_ste2 k2)
        replace hB := hB.trans (q_ste (b := ua a 84 0 (a.2 84 0 + v)) rfl)
        replace hC := hC.trans (q_ste (b := ua (ua a 94 0 x) 84 0 (a.2 84 0 + v)) rfl)
        rw [hB, hC]
        exact ua_comm (by decide)
    · rw [if_neg c3] at hB hC
      replace hB := hB.trans (q_ste (b := ua a 84 0 (a.2 84 0 + 16)) rfl)
      replace hC := hC.trans (q_ste (b := ua (ua a 94 0 x) 84 0 (a.2 84 0 + 16)) rfl)
      rw [hB, hC]
      exact ua_comm (by decide)
end JG4
