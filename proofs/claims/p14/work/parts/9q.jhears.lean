/-! ===== THE LIKENESS: what the reference hears of a packet in flight ===== -/
section JHS
variable {n : Nat} {M M0 M1 M2 : z_Mem} {r r1 r2 : q_R} {TL CL : List Nat} {t s q z : Nat} {d : Int} {f g : Nat → Int32}
theorem q_h50f {i m : Nat} (hi : i < 400) (hm : r.2 75 i = nI m) (hk : r.2 76 i = 0) : qF_hearsOf_50 (nI i) 0 (nI m) r = qF_grows (nI i) (qF_lands (nI i) 1 r) := by
  have hB := qE_hearsOf_50 (nI i) 0 (nI m) r
  rw [jI_N (by omega : i < 2147483648), if_pos (by rw [hm, Int32.le_iff_toInt_le]; omega), if_pos hk] at hB
  replace hB := hB.trans (q_ste (b := qF_lands (nI i) 1 r) rfl)
  replace hB := hB.trans (q_ste (b := qF_grows (nI i) (qF_lands (nI i) 1 r)) rfl)
  exact qUr_hearsOf_50 hB
theorem q_lands94 (sN a m : Nat) {i : Nat} {v x : Int32} (hi : i < 400) (hs : sN < 4) (ham : a + m ≤ 200) (h3 : r.2 73 i = nI sN) (h4 : r.2 74 i = nI a) (h5 : r.2 75 i = nI m) : qF_lands (nI i) v (ua r 94 0 x) = ua (qF_lands (nI i) v r) 94 0 x := by
  rw [q_lands sN a m hi hs ham h3 h4 h5, q_lands sN a m hi hs ham (by rw [ua_n (by decide)]; exact h3) (by rw [ua_n (by decide)]; exact h4) (by rw [ua_n (by decide)]; exact h5), ua_n (show 70 ≠ 94 by decide)]
  generalize rO (r.2 70) (200 * sN + a) m (-1) = G
  rw [ua_comm (show 94 ≠ 76 by decide)]
  exact ua_uAc (by decide)
theorem q_hearsA {i sN a m : Nat} (hi : i < 400) (hs : sN < 4) (ham : a + m ≤ 200) (h3 : r.2 73 i = nI sN) (h4 : r.2 74 i = nI a) (h5 : r.2 75 i = nI m) (h71 : r.2 71 i = 0) (h76 : r.2 76 i = 0) (h103 : 0 ≤ (r.2 103 0).toInt) (h103b : (r.2 103 0).toInt ≤ 400000000) : qF_hearsOf (nI i) r = ua (qF_grows (nI i) (qF_lands (nI i) 1 (uA r 69 (rS (r.2 69) (200 * sN + a) m 1)))) 94 0 (if r.2 94 0 < r.2 82 i then r.2 82 i else r.2 94 0) := by
  have e0 : (0 : Int32).toNatClampNeg = 0 := rfl
  have hB := qE_hearsOf (nI i) r
  rw [jI_N (by omega : i < 2147483648), h71] at hB
  replace hB := hB.trans (q_ste (b := 0) rfl)
  rw [if_pos h76] at hB
  have hD := qE_hearsOf_27 (nI i) 0 r
  rw [jI_N (by omega : i < 2147483648), e0, q_maxe] at hD
  generalize (if r.2 94 0 < r.2 82 i then r.2 82 i else r.2 94 0 : Int32) = x at hD ⊢
  replace hD := hD.trans (q_ste2 (a := x) (b := r) rfl)
  replace hD := hD.trans (q_ste (b := ua r 94 0 x) rfl)
  have k1 := q_h50 (x2 := 0) hi hs ham m 0 (ua r 94 0 x) (by omega) (by rw [ua_n (by decide)]; exact h5) (by rw [ua_n (by decide)]; exact h4) (by rw [ua_n (by decide)]; exact h3)
  rw [Nat.add_zero, ua_n (show 69 ≠ 94 by decide)] at k1
  replace hB := (hB.trans hD).trans k1
  generalize rS (r.2 69) (200 * sN + a) m 1 = F at hB ⊢
  rw [ua_uAc (x := 69) (by decide)] at hB
  have l3 : (uA r 69 F).2 73 i = nI sN := by rw [uA_n (by decide)]; exact h3
  have l4 : (uA r 69 F).2 74 i = nI a := by rw [uA_n (by decide)]; exact h4
  have l5 : (uA r 69 F).2 75 i = nI m := by rw [uA_n (by decide)]; exact h5
  rw [q_h50f hi (by rw [ua_n (by decide)]; exact l5) (by rw [ua_n (by decide), uA_n (by decide)]; exact h76), q_lands94 sN a m hi hs ham l3 l4 l5] at hB
  have o71 : (qF_lands (nI i) 1 (uA r 69 F)).2 71 i = 0 := by rw [q_lands sN a m hi hs ham l3 l4 l5, uA_n (by decide), ua_n (by decide), uA_n (by decide)]; exact h71
  have o103 : (qF_lands (nI i) 1 (uA r 69 F)).2 103 = r.2 103 := by rw [q_lands sN a m hi hs ham l3 l4 l5, uA_n (by decide), ua_n (by decide), uA_n (by decide)]
  rw [q_grows94 hi o71 (by rw [o103]; exact h103) (by rw [o103]; exact h103b)] at hB
  exact hB
end JHS
