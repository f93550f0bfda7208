/-! ===== THE LIKENESS: a packet of data comes to the server, whole ===== -/
section JDB
variable {n : Nat} {M M0 M1 M2 : z_Mem} {r r1 : q_R} {TL CL : List Nat} {t s q z : Nat} {d : Int} {f g : Nat → Int32}
theorem j_max {x y : Int32} : (if x < y then y else x) = (if x ≤ y then y else x) := by
  by_cases h : x < y
  · rw [if_pos h, if_pos (by rw [Int32.lt_iff_toInt_lt] at h; rw [Int32.le_iff_toInt_le]; omega)]
  · rw [if_neg h]
    by_cases h2 : x ≤ y
    · rw [if_pos h2]
      rw [Int32.lt_iff_toInt_lt] at h
      rw [Int32.le_iff_toInt_le] at h2
      exact Int32.toInt_inj.mp (by omega)
    · rw [if_neg h2]
def q_d5 (i : Nat) (F : Nat → Int32) (mx sv mv : Int32) (r : q_R) : q_R := uf (uf (uA (uf (ua (ua r 77 i 1) 63 i 1) 1576 mv) 64 F) 1572 mx) 1573 sv
theorem q_d5e {i : Nat} {F : Nat → Int32} {mx sv mv : Int32} : uf (uf (uf (ua (uA (ua r 77 i 1) 64 F) 63 i 1) 1572 mx) 1573 sv) 1576 mv = q_d5 i F mx sv mv r := by
  unfold q_d5
  refine Prod.ext (funext fun k => ?_) (funext fun x => ?_)
  · show (if k = 1576 then mv else if k = 1573 then sv else if k = 1572 then mx else r.1 k) = (if k = 1573 then sv else if k = 1572 then mx else if k = 1576 then mv else r.1 k)
    by_cases a : k = 1576
    · rw [if_pos a, if_neg (by omega), if_neg (by omega), if_pos a]
    · rw [if_neg a, if_neg a]
  · show (ua (uA (ua r 77 i 1) 64 F) 63 i 1).2 x = (uA (uf (ua (ua r 77 i 1) 63 i 1) 1576 mv) 64 F).2 x
    by_cases a : x = 64
    · rw [a, ua_n (by decide), uA_e, uA_e]
    · rw [uA_n a]
      funext j
      rw [uf2, ua2, ua2, uA_n a]
theorem q_d5n {i : Nat} {F : Nat → Int32} {mx sv : Int32} : uf (uf (ua (uA (ua r 77 i 1) 64 F) 63 i 1) 1572 mx) 1573 sv = q_d5 i F mx sv (r.1 1576) r := by
  rw [← q_d5e]
  refine Prod.ext (funext fun k => ?_) rfl
  show _ = (if k = 1576 then r.1 1576 else _)
  by_cases a : k = 1576
  · rw [if_pos a, a]; rfl
  · rw [if_neg a]
theorem q_d5F {i : Nat} {F : Nat → Int32} {mx sv mv : Int32} : (∀ k, k ≠ 1572 → k ≠ 1573 → k ≠ 1576 → (q_d5 i F mx sv mv r).1 k = r.1 k) ∧ (q_d5 i F mx sv mv r).1 1572 = mx ∧ (q_d5 i F mx sv mv r).1 1573 = sv ∧ (∀ x, x ≠ 77 → x ≠ 63 → x ≠ 64 → (q_d5 i F mx sv mv r).2 x = r.2 x) ∧ (∀ j, (q_d5 i F mx sv mv r).2 63 j = if j = i then 1 else r.2 63 j) := by
  unfold q_d5
  refine ⟨fun k a b c => ?_, ?_, uf_e, fun x a b c => ?_, fun j => ?_⟩
  · rw [uf_n b, uf_n a]; show (uf (ua (ua r 77 i 1) 63 i 1) 1576 mv).1 k = r.1 k; rw [uf_n c]; rfl
  · rw [uf_n (by decide), uf_e]
  · rw [uf2, uf2, uA_n c, uf2, ua_n b, ua_n a]
  · rw [uf2, uf2, uA_n (by decide), uf2, ua2, if_pos rfl, ua_n (by decide)]
/-- the reference takes -/
theorem q_t99 {i a m sN : Nat} (hm : r.2 75 i = nI m) (ha : r.2 74 i = nI a) (hs : r.2 73 i = nI sN) (hi : i < 400) (hsN : sN < 4) (ham : a + m ≤ 200) : qF_takes_99 (nI i) r = (if nI i = r.1 1572 + 1 then qF_takes_194 (nI i) 1 (uA (uf (ua (ua r 77 i 1) 63 i 1) 1576 (if r.2 81 i = 0 then r.1 1576 + 0 else r.1 1576 + 1)) 64 (rS (r.2 64) (200 * sN + a) m 1)) else qF_takes_194 (nI i) 0 (uA (uf (ua (ua r 77 i 1) 63 i 1) 1576 (if r.2 81 i = 0 then r.1 1576 + 0 else r.1 1576 + 1)) 64 (rS (r.2 64) (200 * sN + a) m 1))) := by
  have ei : (nI i).toNatClampNeg = i := jI_N (by omega)
  rw [qE_takes_99, ei]
  refine (q_ste rfl).trans ?_
  refine (q_ste rfl).trans ?_
  have e132 : ∀ v, qF_takes_132 (nI i) ((ua (ua r 77 i 1) 63 i 1).1 1576) v (ua (ua r 77 i 1) 63 i 1) = (if nI i = r.1 1572 + 1 then qF_takes_194 (nI i) 1 (uA (uf (ua (ua r 77 i 1) 63 i 1) 1576 (r.1 1576 + v)) 64 (rS (r.2 64) (200 * sN + a) m 1)) else qF_takes_194 (nI i) 0 (uA (uf (ua (ua r 77 i 1) 63 i 1) 1576 (r.1 1576 + v)) 64 (rS (r.2 64) (200 * sN + a) m 1))) := fun v => by
    rw [qE_takes_132]
    refine (q_ste rfl).trans ?_
    have := q_tk138 (r := uf (ua (ua r 77 i 1) 63 i 1) 1576 (r.1 1576 + v)) (i := i) (a := a) (m := m) (sN := sN) (by rw [uf2, ua_n (by decide), ua_n (by decide)]; exact hm) (by rw [uf2, ua_n (by decide), ua_n (by decide)]; exact ha) (by rw [uf2, ua_n (by decide), ua_n (by decide)]; exact hs) hi hsN ham m 0 (by omega)
    have e64 : (uf (ua (ua r 77 i 1) 63 i 1) 1576 (r.1 1576 + v)).2 64 = r.2 64 := by rw [uf2, ua_n (by decide), ua_n (by decide)]
    rw [rS_0, uA_id, e64] at this
    exact this
  rw [ua_n (by decide), ua_n (by decide)]
  by_cases c : r.2 81 i = 0
  · rw [if_pos c, if_pos c]; exact e132 0
  · rw [if_neg c, if_neg c]; exact e132 1
theorem j_h92 {i pk : Nat} (J : JJ n M (uA (ua r 77 i 1) 64 f) TL (pC d r)) (hi4 : i < 400) (hi : i < jN (r.1 1606)) (e : z_ar M (n + 38) i = some pk) (hs1 : r.1 1562 = 1) (K : jTK r) (hSA : r.1 1573 = 0 ∨ r.1 1573 = 1) {p : Nat} (hp : p < 2) (hdp : r.1 1575 = nI p) (h0 : 0 ≤ (r.1 1561).toInt) (h1 : (r.1 1561).toInt < 3600) (a0 : 0 ≤ (r.1 1559).toInt) (a1 : (r.1 1559).toInt < 2048) (hd : d ≤ (r.1 1536 + r.2 41 p).toInt) (r' : q_R) (hr' : r' = (if nI i = r.1 1572 + 1 then qF_takes_194 (nI i) 1 (uA (uf (ua (ua r 77 i 1) 63 i 1) 1576 (if r.2 81 i = 0 then r.1 1576 + 0 else r.1 1576 + 1)) 64 f) else qF_takes_194 (nI i) 0 (uA (uf (ua (ua r 77 i 1) 63 i 1) 1576 (if r.2 81 i = 0 then r.1 1576 + 0 else r.1 1576 + 1)) 64 f))) : JJ n (cF_X8_hearData_92 (n + 28) (some pk) (nI i) M) r' TL (pC d r') := by
  have ei : (nI i).toNatClampNeg = i := jI_N (by omega)
  obtain ⟨pk', b1, b2, b3, b4, b5⟩ := J.pkt hi
  rw [e] at b1
  cases b1
  obtain ⟨k1, k2, k3⟩ := K
  have f775 : z_fi M 775 pk = r.2 79 i := (jp_775 b5).trans (by rw [uA_n (by decide), ua_n (by decide)])
  have f1034 : z_fi M 1034 (n + 28) = r.1 1572 := Eq.trans (js_1034_28 J) rfl
  have f1036 : z_fi M 1036 (n + 28) = r.1 1573 := Eq.trans (js_1036_28 J) rfl
  -- behind the rows and counts, both
  have core : ∀ t0 : Int32, JJ n (cF_X8_hearData_121 (n + 28) (some pk) (nI i) t0 M) (if t0 = 0 then uf (q_d5 i f (if r.1 1572 ≤ nI i then nI i else r.1 1572) (r.1 1573 + 1) (if r.2 81 i = 0 then r.1 1576 + 0 else r.1 1576 + 1) r) 1574 (r.1 1536 + 3) else qF_acknowledges (q_d5 i f (if r.1 1572 ≤ nI i then nI i else r.1 1572) (r.1 1573 + 1) (if r.2 81 i = 0 then r.1 1576 + 0 else r.1 1576 + 1) r)) TL (pC d (if t0 = 0 then uf (q_d5 i f (if r.1 1572 ≤ nI i then nI i else r.1 1572) (r.1 1573 + 1) (if r.2 81 i = 0 then r.1 1576 + 0 else r.1 1576 + 1) r) 1574 (r.1 1536 + 3) else qF_acknowledges (q_d5 i f (if r.1 1572 ≤ nI i then nI i else r.1 1572) (r.1 1573 + 1) (if r.2 81 i = 0 then r.1 1576 + 0 else r.1 1576 + 1) r))) := fun t0 => by
    rw [cE_X8_hearData_121, s_1033_28 J.1, ei]
    refine JJ.st (fun a8 e8 => ?_)
    have e8 : a8 = n + 30 := e8
    subst e8
    refine JJ.st (fun M10 e10 => ?_)
    have J10 := J.srow (x := 63) (Or.inr ⟨rfl, rfl, hi4⟩) e10
    rw [js_1034_28 J10]
    refine JJ.st (fun M12 e12 => ?_)
    have J12 := J10.sf (j := 1572) e12 (by decide)
    rw [js_1036_28 J12]
    refine JJ.st (fun M14 e14 => ?_)
    have J14 := J12.sf (j := 1573) e14 (by decide)
    refine JJ.st (fun a15 e15 => ?_)
    have e15 : a15 = pk := e15
    subst e15
    have f777 : z_fi M14 777 a15 = r.2 81 i := by
      rw [e14, zq_fi_sfi, if_neg (by decide), e12, zq_fi_sfi, if_neg (by decide), e10]
      exact (jp_777 b5).trans (by rw [uA_n (by decide), ua_n (by decide)])
    have mx : (if (ua (uA (ua r 77 i 1) 64 f) 63 i 1).1 1572 < nI i then nI i else (ua (uA (ua r 77 i 1) 64 f) 63 i 1).1 1572) = (if r.1 1572 ≤ nI i then nI i else r.1 1572) := j_max
    rw [mx] at J14
    have J14' : JJ n M14 (uf (uf (ua (uA (ua r 77 i 1) 64 f) 63 i 1) 1572 (if r.1 1572 ≤ nI i then nI i else r.1 1572)) 1573 (r.1 1573 + 1)) TL (pC d r) := J14
    -- the marks
    have fin : ∀ M19, JJ n M19 (q_d5 i f (if r.1 1572 ≤ nI i then nI i else r.1 1572) (r.1 1573 + 1) (if r.2 81 i = 0 then r.1 1576 + 0 else r.1 1576 + 1) r) TL (pC d r) → JJ n (cF_X8_hearData_169 (n + 28) t0 M19) (if t0 = 0 then uf (q_d5 i f (if r.1 1572 ≤ nI i then nI i else r.1 1572) (r.1 1573 + 1) (if r.2 81 i = 0 then r.1 1576 + 0 else r.1 1576 + 1) r) 1574 (r.1 1536 + 3) else qF_acknowledges (q_d5 i f (if r.1 1572 ≤ nI i then nI i else r.1 1572) (r.1 1573 + 1) (if r.2 81 i = 0 then r.1 1576 + 0 else r.1 1576 + 1) r)) TL (pC d (if t0 = 0 then uf (q_d5 i f (if r.1 1572 ≤ nI i then nI i else r.1 1572) (r.1 1573 + 1) (if r.2 81 i = 0 then r.1 1576 + 0 else r.1 1576 + 1) r) 1574 (r.1 1536 + 3) else qF_acknowledges (q_d5 i f (if r.1 1572 ≤ nI i then nI i else r.1 1572) (r.1 1573 + 1) (if r.2 81 i = 0 then r.1 1576 + 0 else r.1 1576 + 1) r))) := fun M19 J19 => by
      obtain ⟨g1, g2, g3, g4, g5⟩ := q_d5F (r := r) (i := i) (F := f) (mx := (if r.1 1572 ≤ nI i then nI i else r.1 1572)) (sv := r.1 1573 + 1) (mv := (if r.2 81 i = 0 then r.1 1576 + 0 else r.1 1576 + 1))
      generalize (q_d5 i f (if r.1 1572 ≤ nI i then nI i else r.1 1572) (r.1 1573 + 1) (if r.2 81 i = 0 then r.1 1576 + 0 else r.1 1576 + 1) r) = r5 at *
      have hpC : pC d r5 = pC d r := pC_congr (g1 _ (by decide) (by decide) (by decide)) (fun k _ => by rw [g4 60 (by decide) (by decide) (by decide)])
      rw [cE_X8_hearData_169]
      by_cases c : t0 = 0
      · rw [if_pos c, if_pos c, s_1024_28 J19.1]
        refine JJ.st (fun a3 e3 => ?_)
        have e3 : a3 = n + 1 := e3
        subst e3
        refine JJ.st (fun M5 e5 => ?_)
        rw [js_645_1 J19, g1 1536 (by decide) (by decide) (by decide)] at e5
        rw [show pC d (uf r5 1574 (r.1 1536 + 3)) = pC d r from (pC_congr (uf_n (by decide)) (fun _ _ => rfl)).trans hpC]
        exact J19.sf (j := 1574) e5 (by decide)
      · rw [if_neg c, if_neg c]
        refine JJ.st (fun M6 e6 => ?_)
        rw [e6]
        rw [← hpC] at J19
        refine j_ackS J19 ((g1 _ (by decide) (by decide) (by decide)).trans hs1) hp ((g1 _ (by decide) (by decide) (by decide)).trans hdp) (by rw [g1 _ (by decide) (by decide) (by decide)]; exact h0) (by rw [g1 _ (by decide) (by decide) (by decide)]; exact h1) (by rw [g1 _ (by decide) (by decide) (by decide)]; exact a0) (by rw [g1 _ (by decide) (by decide) (by decide)]; exact a1) ⟨fun j hj => ?_, ?_, fun k hk hk4 => ?_⟩ (by rw [g1 _ (by decide) (by decide) (by decide), g4 41 (by decide) (by decide) (by decide)]; exact hd)
        · rw [g5]
          by_cases c2 : j = i
          · rw [if_pos c2]; exact Or.inr rfl
          · rw [if_neg c2]; exact k1 j hj
        · rw [g2]
          split
          · rw [jI_t (by omega)]; omega
          · exact k2
        · rw [g2] at hk
          rw [g5]
          by_cases c3 : r.1 1572 ≤ nI i
          · rw [if_pos c3, jI_t (by omega)] at hk
            have := i_le c3 rfl (jI_t (by omega))
            rw [if_neg (by omega)]
            exact k3 k (by omega) hk4
          · rw [if_neg c3] at hk
            have := i_nle c3 rfl (jI_t (by omega))
            rw [if_neg (by omega)]
            exact k3 k hk hk4
    by_cases c : r.2 81 i = 0
    · rw [if_pos (f777.trans c)]
      refine fin M14 ?_
      rw [if_pos c, Int32.add_zero, ← q_d5n]
      exact J14'
    · rw [if_neg (fun h => c (f777.symm.trans h)), js_1035_28 J14']
      refine JJ.st (fun M19 e19 => ?_)
      refine fin M19 ?_
      rw [if_neg c, ← q_d5e]
      exact J14'.sf (j := 1576) e19 (by decide)
  -- the reference's end
  have q194 : ∀ t0 : Int32, qF_takes_194 (nI i) t0 (uA (uf (ua (ua r 77 i 1) 63 i 1) 1576 (if r.2 81 i = 0 then r.1 1576 + 0 else r.1 1576 + 1)) 64 f) = (if r.2 79 i = 0 then (if t0 = 0 then qF_acknowledges (q_d5 i f (if r.1 1572 ≤ nI i then nI i else r.1 1572) (r.1 1573 + 1) (if r.2 81 i = 0 then r.1 1576 + 0 else r.1 1576 + 1) r) else if r.1 1573 + 1 = 2 then qF_acknowledges (q_d5 i f (if r.1 1572 ≤ nI i then nI i else r.1 1572) (r.1 1573 + 1) (if r.2 81 i = 0 then r.1 1576 + 0 else r.1 1576 + 1) r) else uf (q_d5 i f (if r.1 1572 ≤ nI i then nI i else r.1 1572) (r.1 1573 + 1) (if r.2 81 i = 0 then r.1 1576 + 0 else r.1 1576 + 1) r) 1574 (r.1 1536 + 3)) else qF_acknowledges (q_d5 i f (if r.1 1572 ≤ nI i then nI i else r.1 1572) (r.1 1573 + 1) (if r.2 81 i = 0 then r.1 1576 + 0 else r.1 1576 + 1) r)) := fun t0 => by
    have eM : ∀ rr : q_R, qF_max (r.1 1572) (nI i) rr = ((if r.1 1572 ≤ nI i then nI i else r.1 1572), rr) := fun rr => by
      rw [qE_max]; split <;> rfl
    rw [qE_takes_194]
    refine (q_ste2 (eM _)).trans ?_
    refine (q_ste rfl).trans ?_
    refine (q_ste rfl).trans ?_
    have e79 : (uf (uf (uA (uf (ua (ua r 77 i 1) 63 i 1) 1576 (if r.2 81 i = 0 then r.1 1576 + 0 else r.1 1576 + 1)) 64 f) 1572 (if r.1 1572 ≤ nI i then nI i else r.1 1572)) 1573 (r.1 1573 + 1)).2 79 = r.2 79 := by rw [uf2, uf2, uA_n (by decide), uf2, ua_n (by decide), ua_n (by decide)]
    show (if (uf (uf (uA (uf (ua (ua r 77 i 1) 63 i 1) 1576 (if r.2 81 i = 0 then r.1 1576 + 0 else r.1 1576 + 1)) 64 f) 1572 (if r.1 1572 ≤ nI i then nI i else r.1 1572)) 1573 (r.1 1573 + 1)).2 79 (nI i).toNatClampNeg = 0 then _ else _) = _
    rw [e79, ei]
    rfl
  rw [cE_X8_hearData_92]
  refine JJ.st (fun a20 e20 => ?_)
  have e20 : a20 = pk := e20
  subst e20
  rw [f775, f1034, f1036, hr', q194, q194, cE_X8_hearData_116]
  have c0 := core 0
  have c1 := core 1
  rw [if_pos rfl] at c0
  rw [if_neg (by decide)] at c1
  have n10 : ¬ (1 : Int32) = 0 := by decide
  by_cases cp : r.2 79 i = 0
  · simp only [if_pos cp, if_neg n10, if_pos (show (0 : Int32) = 0 from rfl)]
    by_cases cn : nI i = r.1 1572 + 1
    · simp only [if_pos cn]
      rcases hSA with h | h
      · rw [h] at c0 ⊢
        simp only [if_pos (show (0 : Int32) ≤ 0 by decide), if_neg (show ¬ (0 : Int32) + 1 = 2 by decide)]
        exact c0
      · rw [h] at c1 ⊢
        simp only [if_neg (show ¬ (1 : Int32) ≤ 0 by decide), if_pos (show (1 : Int32) + 1 = 2 by decide)]
        exact c1
    · simp only [if_neg cn]; exact c1
  · simp only [if_neg cp, ite_self]; exact c1
end JDB
