/-! ===== THE LIKENESS: a packet is sent, the reference's side ===== -/
section JSD
variable {n : Nat} {M M0 M1 M2 M3 : z_Mem} {r r1 r2 : q_R} {TL CL : List Nat} {t s q z : Nat}
/-- the cells of a new packet -/
def q_ch (P : Nat) (w sN a m key b e pl ac : Int32) (r : q_R) : q_R := ua (ua (ua (ua (ua (ua (ua (ua (ua (ua (ua (ua r 71 P 0) 72 P w) 73 P sN) 74 P a) 75 P m) 78 P key) 79 P b) 80 P e) 82 P pl) 93 0 (pl + 1)) 83 P ac) 95 0 w
section QCH
variable {P : Nat} {w sN a m key b e pl ac : Int32}
theorem q_ch1 : (q_ch P w sN a m key b e pl ac r).1 = r.1 := rfl
theorem q_chn {x : Nat} (hx : x ∉ [71, 72, 73, 74, 75, 78, 79, 80, 82, 83, 93, 95]) : (q_ch P w sN a m key b e pl ac r).2 x = r.2 x := by
  simp only [List.mem_cons, List.not_mem_nil, or_false, not_or] at hx
  obtain ⟨h1, h2, h3, h4, h5, h6, h7, h8, h9, h10, h11, h12⟩ := hx
  unfold q_ch
  rw [ua_n h12, ua_n h10, ua_n h11, ua_n h9, ua_n h8, ua_n h7, ua_n h6, ua_n h5, ua_n h4, ua_n h3, ua_n h2, ua_n h1]
theorem q_chj {x j : Nat} (hx : x ≠ 93) (hx2 : x ≠ 95) (hj : j ≠ P) : (q_ch P w sN a m key b e pl ac r).2 x j = r.2 x j := by
  unfold q_ch
  rw [ua_n hx2]
  have h : ∀ (a : q_R) (y : Nat) (v : Int32), (ua a y P v).2 x j = a.2 x j := fun a y v => by
    rw [ua2]
    by_cases c : x = y
    · rw [if_pos c, if_neg hj]
    · rw [if_neg c]
  rw [h, ua_n hx, h, h, h, h, h, h, h, h, h]
theorem q_ch71 : (q_ch P w sN a m key b e pl ac r).2 71 P = 0 := by
  unfold q_ch
  rw [ua_n (by decide), ua_n (by decide), ua_n (by decide), ua_n (by decide), ua_n (by decide), ua_n (by decide), ua_n (by decide), ua_n (by decide), ua_n (by decide), ua_n (by decide), ua_n (by decide), ua_e]
theorem q_ch72 : (q_ch P w sN a m key b e pl ac r).2 72 P = w := by
  unfold q_ch
  rw [ua_n (by decide), ua_n (by decide), ua_n (by decide), ua_n (by decide), ua_n (by decide), ua_n (by decide), ua_n (by decide), ua_n (by decide), ua_n (by decide), ua_n (by decide), ua_e]
theorem q_ch73 : (q_ch P w sN a m key b e pl ac r).2 73 P = sN := by
  unfold q_ch
  rw [ua_n (by decide), ua_n (by decide), ua_n (by decide), ua_n (by decide), ua_n (by decide), ua_n (by decide), ua_n (by decide), ua_n (by decide), ua_n (by decide), ua_e]
theorem q_ch74 : (q_ch P w sN a m key b e pl ac r).2 74 P = a := by
  unfold q_ch
  rw [ua_n (by decide), ua_n (by decide), ua_n (by decide), ua_n (by decide), ua_n (by decide), ua_n (by decide), ua_n (by decide), ua_n (by decide), ua_e]
theorem q_ch75 : (q_ch P w sN a m key b e pl ac r).2 75 P = m := by
  unfold q_ch
  rw [ua_n (by decide), ua_n (by decide), ua_n (by decide), ua_n (by decide), ua_n (by decide), ua_n (by decide), ua_n (by decide), ua_e]
theorem q_ch78 : (q_ch P w sN a m key b e pl ac r).2 78 P = key := by
  unfold q_ch
  rw [ua_n (by decide), ua_n (by decide), ua_n (by decide), ua_n (by decide), ua_n (by decide), ua_n (by decide), ua_e]
theorem q_ch79 : (q_ch P w sN a m key b e pl ac r).2 79 P = b := by
  unfold q_ch
  rw [ua_n (by decide), ua_n (by decide), ua_n (by decide), ua_n (by decide), ua_n (by decide), ua_e]
theorem q_ch80 : (q_ch P w sN a m key b e pl ac r).2 80 P = e := by
  unfold q_ch
  rw [ua_n (by decide), ua_n (by decide), ua_n (by decide), ua_n (by decide), ua_e]
theorem q_ch82 : (q_ch P w sN a m key b e pl ac r).2 82 P = pl := by
  unfold q_ch
  rw [ua_n (by decide), ua_n (by decide), ua_n (by decide), ua_e]
theorem q_ch83 : (q_ch P w sN a m key b e pl ac r).2 83 P = ac := by
  unfold q_ch
  rw [ua_n (by decide), ua_e]
theorem q_ch93 : (q_ch P w sN a m key b e pl ac r).2 93 0 = pl + 1 := by
  unfold q_ch
  rw [ua_n (by decide), ua_n (by decide), ua_e]
theorem q_ch93b {j : Nat} (h : j ≠ 0) : (q_ch P w sN a m key b e pl ac r).2 93 j = r.2 93 j := by
  unfold q_ch
  rw [ua_n (by decide), ua_n (by decide), ua_i h, ua_n (by decide), ua_n (by decide), ua_n (by decide), ua_n (by decide), ua_n (by decide), ua_n (by decide), ua_n (by decide), ua_n (by decide), ua_n (by decide)]
theorem q_ch95 : (q_ch P w sN a m key b e pl ac r).2 95 0 = w := by
  unfold q_ch
  rw [ua_e]
theorem q_ch95b {j : Nat} (h : j ≠ 0) : (q_ch P w sN a m key b e pl ac r).2 95 j = r.2 95 j := by
  unfold q_ch
  rw [ua_i h, ua_n (by decide), ua_n (by decide), ua_n (by decide), ua_n (by decide), ua_n (by decide), ua_n (by decide), ua_n (by decide), ua_n (by decide), ua_n (by decide), ua_n (by decide), ua_n (by decide)]
theorem q_ch67 {j : Nat} {v : Int32} : q_ch P w sN a m key b e pl ac (ua r 67 j v) = ua (q_ch P w sN a m key b e pl ac r) 67 j v := by
  unfold q_ch
  rw [ua_comm (show 67 ≠ 71 by decide), ua_comm (show 67 ≠ 72 by decide), ua_comm (show 67 ≠ 73 by decide), ua_comm (show 67 ≠ 74 by decide), ua_comm (show 67 ≠ 75 by decide), ua_comm (show 67 ≠ 78 by decide), ua_comm (show 67 ≠ 79 by decide), ua_comm (show 67 ≠ 80 by decide), ua_comm (show 67 ≠ 82 by decide), ua_comm (show 67 ≠ 93 by decide), ua_comm (show 67 ≠ 83 by decide), ua_comm (show 67 ≠ 95 by decide)]
end QCH
/-- all that sending does, but the put -/
def q_sn (P sN a m : Nat) (b : Int32) (r : q_R) : q_R := uf (uA (q_ch P (r.1 1536) (nI sN) (nI a) (nI m) (r.1 1584) b (if r.1 1577 = 1 then 1 else 0) (r.2 93 0) (r.2 97 0) r) 70 (rO (r.2 70) (200 * sN + a) m 1)) 1606 (nI (P + 1))
theorem q_sendsE {P sN a m : Nat} {b : Int32} (hP : r.1 1606 = nI P) (hP4 : P < 400) (hs : sN < 4) (ham : a + m ≤ 200) : qF_sends 0 (nI sN) (nI a) (nI m) b r = qF_puts 0 2 (nI P) (q_sn P sN a m b r) := by
  have e0 : (0 : Int32).toNatClampNeg = 0 := rfl
  have pN : (nI P).toNatClampNeg = P := jI_N (by omega)
  have h89 : ∀ (e : Int32) (c8 : q_R), c8.1 = r.1 → c8.2 93 = r.2 93 → c8.2 97 = r.2 97 → c8.2 70 = r.2 70 → qF_sends_89 0 (nI sN) (nI a) (nI m) (nI P) 80 (nI P) e c8 = qF_puts 0 2 (nI P) (uf (uA (ua (ua (ua (ua (ua c8 80 P e) 82 P (r.2 93 0)) 93 0 (r.2 93 0 + 1)) 83 P (r.2 97 0)) 95 0 (r.1 1536)) 70 (rO (r.2 70) (200 * sN + a) m 1)) 1606 (nI (P + 1))) := fun e c8 k1 k93 k97 k70 => by
    have hB := qE_sends_89 0 (nI sN) (nI a) (nI m) (nI P) 80 (nI P) e c8
    rw [pN, e0] at hB
    replace hB := hB.trans (q_ste (b := ua c8 80 P e) rfl)
    replace hB := hB.trans (q_ste (b := ua (ua c8 80 P e) 82 P (r.2 93 0)) (by rw [ua_n (show 93 ≠ 80 by decide), k93]))
    replace hB := hB.trans (q_ste (b := ua (ua (ua c8 80 P e) 82 P (r.2 93 0)) 93 0 (r.2 93 0 + 1)) (by rw [ua_n (show 93 ≠ 82 by decide), ua_n (show 93 ≠ 80 by decide), k93]))
    replace hB := hB.trans (q_ste (b := ua (ua (ua (ua c8 80 P e) 82 P (r.2 93 0)) 93 0 (r.2 93 0 + 1)) 83 P (r.2 97 0)) (by rw [ua_n (show 97 ≠ 93 by decide), ua_n (show 97 ≠ 82 by decide), ua_n (show 97 ≠ 80 by decide), k97]))
    replace hB := hB.trans (q_ste (b := ua (ua (ua (ua (ua c8 80 P e) 82 P (r.2 93 0)) 93 0 (r.2 93 0 + 1)) 83 P (r.2 97 0)) 95 0 (r.1 1536)) (by
      rw [show (ua (ua (ua (ua c8 80 P e) 82 P (r.2 93 0)) 93 0 (r.2 93 0 + 1)) 83 P (r.2 97 0)).1 1536 = c8.1 1536 from rfl, k1]))
    have h70 : (ua (ua (ua (ua (ua c8 80 P e) 82 P (r.2 93 0)) 93 0 (r.2 93 0 + 1)) 83 P (r.2 97 0)) 95 0 (r.1 1536)).2 70 = r.2 70 := by rw [ua_n (by decide), ua_n (by decide), ua_n (by decide), ua_n (by decide), ua_n (by decide), k70]
    have h6 : (ua (ua (ua (ua (ua c8 80 P e) 82 P (r.2 93 0)) 93 0 (r.2 93 0 + 1)) 83 P (r.2 97 0)) 95 0 (r.1 1536)).1 1606 = nI P := by
      rw [show (ua (ua (ua (ua (ua c8 80 P e) 82 P (r.2 93 0)) 93 0 (r.2 93 0 + 1)) 83 P (r.2 97 0)) 95 0 (r.1 1536)).1 1606 = c8.1 1606 from rfl, k1, hP]
    generalize ua (ua (ua (ua (ua c8 80 P e) 82 P (r.2 93 0)) 93 0 (r.2 93 0 + 1)) 83 P (r.2 97 0)) 95 0 (r.1 1536) = c12 at hB h70 h6
    have hC := q_s139 (x1 := 0) (x6 := nI P) hs ham m 0 c12 (by omega)
    rw [Nat.add_zero, h70, h6, jI_1, jI_add (by omega)] at hC
    exact hB.trans hC
  have hQ := qE_sends 0 (nI sN) (nI a) (nI m) b r
  replace hQ := hQ.trans (q_ste (b := nI P) hP.symm)
  rw [pN] at hQ
  replace hQ := hQ.trans (q_ste (b := ua r 71 P 0) rfl)
  replace hQ := hQ.trans (q_ste (b := ua (ua r 71 P 0) 72 P (r.1 1536)) rfl)
  replace hQ := hQ.trans (q_ste (b := ua (ua (ua r 71 P 0) 72 P (r.1 1536)) 73 P (nI sN)) rfl)
  replace hQ := hQ.trans (q_ste (b := ua (ua (ua (ua r 71 P 0) 72 P (r.1 1536)) 73 P (nI sN)) 74 P (nI a)) rfl)
  replace hQ := hQ.trans (q_ste (b := ua (ua (ua (ua (ua r 71 P 0) 72 P (r.1 1536)) 73 P (nI sN)) 74 P (nI a)) 75 P (nI m)) rfl)
  replace hQ := hQ.trans (q_ste (b := ua (ua (ua (ua (ua (ua r 71 P 0) 72 P (r.1 1536)) 73 P (nI sN)) 74 P (nI a)) 75 P (nI m)) 78 P (r.1 1584)) rfl)
  replace hQ := hQ.trans (q_ste (b := ua (ua (ua (ua (ua (ua (ua r 71 P 0) 72 P (r.1 1536)) 73 P (nI sN)) 74 P (nI a)) 75 P (nI m)) 78 P (r.1 1584)) 79 P b) rfl)
  have k77 : (ua (ua (ua (ua (ua (ua (ua r 71 P 0) 72 P (r.1 1536)) 73 P (nI sN)) 74 P (nI a)) 75 P (nI m)) 78 P (r.1 1584)) 79 P b).1 1577 = r.1 1577 := rfl
  rw [k77] at hQ
  have k93 : ∀ x, x ∉ [71, 72, 73, 74, 75, 78, 79] → (ua (ua (ua (ua (ua (ua (ua r 71 P 0) 72 P (r.1 1536)) 73 P (nI sN)) 74 P (nI a)) 75 P (nI m)) 78 P (r.1 1584)) 79 P b).2 x = r.2 x := fun x hx => by
    simp only [List.mem_cons, List.not_mem_nil, or_false, not_or] at hx
    obtain ⟨h1, h2, h3, h4, h5, h6, h7⟩ := hx
    rw [ua_n h7, ua_n h6, ua_n h5, ua_n h4, ua_n h3, ua_n h2, ua_n h1]
  have k1 : (ua (ua (ua (ua (ua (ua (ua r 71 P 0) 72 P (r.1 1536)) 73 P (nI sN)) 74 P (nI a)) 75 P (nI m)) 78 P (r.1 1584)) 79 P b).1 = r.1 := rfl
  unfold q_sn q_ch
  generalize ua (ua (ua (ua (ua (ua (ua r 71 P 0) 72 P (r.1 1536)) 73 P (nI sN)) 74 P (nI a)) 75 P (nI m)) 78 P (r.1 1584)) 79 P b = c8 at hQ k93 k1 ⊢
  by_cases c : r.1 1577 = 1
  · rw [if_pos c] at hQ
    rw [hQ, h89 1 c8 k1 (k93 93 (by decide)) (k93 97 (by decide)) (k93 70 (by decide)), if_pos c]
  · rw [if_neg c] at hQ
    rw [hQ, h89 0 c8 k1 (k93 93 (by decide)) (k93 97 (by decide)) (k93 70 (by decide)), if_neg c]
end JSD
