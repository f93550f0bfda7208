/-! ===== THE LIKENESS: a harm of the path 0, and what takes it back ===== -/
section JHN
variable {n : Nat} {M M0 M1 M2 : z_Mem} {r r1 : q_R} {TL CL : List Nat} {t s q z : Nat} {d : Int} {f g : Nat → Int32}
theorem zq_sfi_comm {M : z_Mem} {g a k b : Nat} {v w : Int32} (h : g ≠ k) : z_sfi (z_sfi M g a v) k b w = z_sfi (z_sfi M k b w) g a v := by
  refine congrArg (fun (F : Nat → Nat → Int32) => ((M.1, M.2.1, F, M.2.2.2) : z_Mem)) (funext fun x => funext fun y => ?_)
  show z_up (z_up M.2.2.1 g a v) k b w x y = z_up (z_up M.2.2.1 k b w) g a v x y
  unfold z_up
  by_cases h1 : x = k
  · have h2 : ¬ x = g := fun e => h (e.symm.trans h1)
    rw [if_pos h1, if_neg h2, if_neg h2, if_pos h1]
  · rw [if_neg h1]
    by_cases h2 : x = g
    · rw [if_pos h2, if_pos h2, if_neg h1]
    · rw [if_neg h2, if_neg h2, if_neg h1]
theorem j_maxe {x y : Int32} : (if x < y then y else x) = (if x ≤ y then y else x) := by
  by_cases h : x < y
  · rw [if_pos h, if_pos (by rw [Int32.lt_iff_toInt_lt] at h; rw [Int32.le_iff_toInt_le]; omega)]
  · by_cases h2 : x ≤ y
    · rw [if_neg h, if_pos h2]
      refine Int32.toInt_inj.1 ?_
      rw [Int32.lt_iff_toInt_lt] at h; rw [Int32.le_iff_toInt_le] at h2; omega
    · rw [if_neg h, if_neg h2]
theorem q_maxe {x y : Int32} : qF_max x y r = ((if x < y then y else x), r) := by
  rw [qE_max, j_maxe]; split <;> rfl
theorem q_h129 {v : Int32} : qF_harms_129 0 84 0 32 v r = ua (ua r 84 0 (if 32 < v then v else 32)) 85 0 (if 32 < v then v else 32) := by
  have e0 : (0 : Int32).toNatClampNeg = 0 := rfl
  have hB := qE_harms_129 0 84 0 32 v r
  rw [e0, q_maxe] at hB
  refine hB.trans (congrArg (ua (ua r 84 0 _) 85 0) ?_)
  show (ua r 84 0 _).2 84 0 = _
  rw [ua_e]
theorem j_h129 (J : JJ n M r TL CL) {v w : Int32} (h : v = w) : JJ n (q_st (z_sfi M 257 (n + 33) (if 32 < v then v else 32)) fun M1 => q_st (z_sfi M1 258 (n + 33) (z_fi M1 257 (n + 33))) fun M2 => M2) (qF_harms_129 0 84 0 32 w r) TL CL := by
  subst h
  refine JJ.cr q_h129 ?_
  refine JJ.st (fun M1 e1 => JJ.st (fun M2 e2 => ?_))
  have J1 := J.sa (x := 84) (j := 0) e1 (by decide) (by decide)
  rw [js_257_33 J1, ua_e] at e2
  exact J1.sa (x := 85) (j := 0) e2 (by decide) (by decide)
theorem j_h55 (J : JJ n M r TL CL) {v p3 c : Int32} (h86 : r.2 86 0 = 0 ∨ r.2 86 0 = 1 ∨ r.2 86 0 = 2) : JJ n (q_st (z_sfi M 260 (n + 33) (z_fi M 257 (n + 33))) fun M6 => q_st (z_sfi M6 261 (n + 33) (z_fi M6 258 (n + 33))) fun M8 => q_st (z_sfi M8 262 (n + 33) c) fun M9 => q_st (z_sfi M9 263 (n + 33) p3) fun M10 => q_st (z_sfi M10 264 (n + 33) v) fun M11 => if z_fi M11 256 (n + 33) = 2 then M11 else if z_fi M11 256 (n + 33) = 1 then q_st (z_sfi M11 257 (n + 33) (if 32 < z_fi M11 257 (n + 33) * 7 / 10 then z_fi M11 257 (n + 33) * 7 / 10 else 32)) fun M21 => q_st (z_sfi M21 258 (n + 33) (z_fi M21 257 (n + 33))) fun M23 => M23 else q_st (z_sfi M11 257 (n + 33) (if 32 < z_fi M11 257 (n + 33) / 2 then z_fi M11 257 (n + 33) / 2 else 32)) fun M17 => q_st (z_sfi M17 258 (n + 33) (z_fi M17 257 (n + 33))) fun M19 => M19) (qF_harms_55 0 102 0 v (ua (ua r 100 0 p3) 101 0 c)) TL CL := by
  have e0 : (0 : Int32).toNatClampNeg = 0 := rfl
  refine JJ.st (fun M6 e6 => JJ.st (fun M8 e8 => JJ.st (fun M9 e9 => JJ.st (fun M10 e10 => JJ.st (fun M11 e11 => ?_)))))
  rw [js_257_33 J] at e6
  have h8 : z_fi M6 258 (n + 33) = r.2 85 0 := by rw [e6, zq_fi_sfi, if_neg (by decide)]; exact js_258_33 J
  rw [h8, e6] at e8
  have eM : M10 = z_sfi (z_sfi (z_sfi (z_sfi M 260 (n + 33) (r.2 84 0)) 261 (n + 33) (r.2 85 0)) 263 (n + 33) p3) 262 (n + 33) c := by
    rw [e10, e9, e8]; exact zq_sfi_comm (by decide)
  have J1 := J.harm (w := r.2 84 0) (b := r.2 85 0) (p3 := p3) rfl
  have J2 := J1.sa (x := 101) (j := 0) eM (by decide) (by decide)
  have J3 := J2.sa (x := 102) (j := 0) e11 (by decide) (by decide)
  have er : ua (ua (ua (ua (ua r 100 0 p3) 101 0 c) 102 0 v) 103 0 (r.2 84 0)) 104 0 (r.2 85 0) = ua (ua (ua (ua (ua r 100 0 p3) 103 0 (r.2 84 0)) 104 0 (r.2 85 0)) 101 0 c) 102 0 v := by
    have a1 : ∀ a : q_R, ua (ua (ua a 101 0 c) 102 0 v) 103 0 (r.2 84 0) = ua (ua (ua a 103 0 (r.2 84 0)) 101 0 c) 102 0 v := fun a => (ua_comm (by decide)).trans (congrArg (fun z => ua z 102 0 v) (ua_comm (by decide)))
    have a2 : ∀ a : q_R, ua (ua (ua a 101 0 c) 102 0 v) 104 0 (r.2 85 0) = ua (ua (ua a 104 0 (r.2 85 0)) 101 0 c) 102 0 v := fun a => (ua_comm (by decide)).trans (congrArg (fun z => ua z 102 0 v) (ua_comm (by decide)))
    rw [a1, a2]
  have hB := qE_harms_55 0 102 0 v (ua (ua r 100 0 p3) 101 0 c)
  rw [e0] at hB
  replace hB := hB.trans (q_ste (b := ua (ua (ua r 100 0 p3) 101 0 c) 102 0 v) rfl)
  replace hB := hB.trans (q_ste (b := ua (ua (ua (ua r 100 0 p3) 101 0 c) 102 0 v) 103 0 (r.2 84 0)) rfl)
  replace hB := hB.trans (q_ste er.symm)
  have h1 : z_fi M11 256 (n + 33) = r.2 86 0 := (js_256_33 J3).trans (by rw [ua_n (by decide), ua_n (by decide), ua_n (by decide), ua_n (by decide), ua_n (by decide)])
  have h2 : z_fi M11 257 (n + 33) = r.2 84 0 := (js_257_33 J3).trans (by rw [ua_n (by decide), ua_n (by decide), ua_n (by decide), ua_n (by decide), ua_n (by decide)])
  rw [h1, h2]
  generalize ua (ua (ua (ua (ua r 100 0 p3) 103 0 (r.2 84 0)) 104 0 (r.2 85 0)) 101 0 c) 102 0 v = rr at hB J3
  have k1 : rr.2 86 0 = r.2 86 0 := (js_256_33 J3).symm.trans h1
  have k2 : rr.2 84 0 = r.2 84 0 := (js_257_33 J3).symm.trans h2
  rw [k1, k2] at hB
  rcases h86 with h | h | h
  · rw [h, if_neg (by decide), if_pos rfl] at hB
    refine JJ.cr hB ?_
    rw [h, if_neg (by decide), if_neg (by decide)]
    exact j_h129 J3 rfl
  · rw [h, if_neg (by decide), if_neg (by decide)] at hB
    refine JJ.cr hB ?_
    rw [h, if_neg (by decide), if_pos rfl]
    exact j_h129 J3 (by rw [Int32.mul_comm])
  · rw [h, if_pos (by decide)] at hB
    refine JJ.cr hB ?_
    rw [h, if_pos rfl]
    exact J3
theorem j_harm (J : JJ n M r TL CL) {num p3 : Int32} (h86 : r.2 86 0 = 0 ∨ r.2 86 0 = 1 ∨ r.2 86 0 = 2) : JJ n (cF_X2_harm (n + 33) num (if p3 = 0 then -1 else num) (r.1 1606) (r.1 1536) M) (qF_harms 0 num p3 r) TL CL := by
  have e0 : (0 : Int32).toNatClampNeg = 0 := rfl
  have e5 : (5 : Int32).toNatClampNeg = 5 := rfl
  rw [cE_X2_harm, qE_harms, e0, e5, js_263_33 J]
  by_cases c : r.2 100 0 ≤ num
  · rw [if_pos c, if_pos c]
    refine JJ.st (fun M4 e4 => ?_)
    have J4 : JJ n M4 (ua r 106 5 (r.2 106 5 + 1)) TL CL := (J.fc e4 (by decide)).ra (by decide)
    by_cases c3 : p3 = 0
    · rw [if_pos c3]
      refine JJ.cr (r := qF_harms_55 0 102 0 (-1) (ua (ua (ua r 106 5 (r.2 106 5 + 1)) 100 0 (r.1 1606)) 101 0 (r.1 1536))) ?_ (j_h55 J4 h86)
      exact if_pos c3
    · rw [if_neg c3]
      refine JJ.cr (r := qF_harms_55 0 102 0 num (ua (ua (ua r 106 5 (r.2 106 5 + 1)) 100 0 (r.1 1606)) 101 0 (r.1 1536))) ?_ (j_h55 J4 h86)
      exact if_neg c3
  · rw [if_neg c, if_neg c]; exact J
end JHN
