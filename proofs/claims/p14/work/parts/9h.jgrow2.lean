/-! ===== THE LIKENESS: a window grows, whole (path 0; its cube stands behind) ===== -/
section JGS
variable {n : Nat} {M M0 M1 M2 : z_Mem} {r r1 : q_R} {TL CL : List Nat} {t s q z : Nat} {d : Int} {f g : Nat → Int32}
theorem j_max1 {x : Int32} (h : 1 ≤ x.toInt) : (if 1 < x then x else 1) = x := by
  by_cases c : 1 < x
  · rw [if_pos c]
  · rw [if_neg c]
    rw [Int32.lt_iff_toInt_lt, show (1 : Int32).toInt = 1 from rfl] at c
    exact Int32.toInt_inj.mp (by rw [show (1 : Int32).toInt = 1 from rfl]; omega)
/-- the cube's step is alike -/
def jCB (n : Nat) (M : z_Mem) (r : q_R) : Prop := r.2 86 0 = 1 → r.2 85 0 ≤ r.2 84 0 → ∃ v, cF_X2_cubeStep (n + 33) (r.1 1536) M = (v, M) ∧ qF_byCube 0 r = (v, r)
theorem j_grow (J : JJ n M (ua r 97 0 (r.2 97 0 + 1)) TL CL) {i : Nat} (hi : i < 400) (hp : r.2 71 i = 0) (h86 : r.2 86 0 = 0 ∨ r.2 86 0 = 1 ∨ r.2 86 0 = 2) (h0 : 0 ≤ (r.2 99 0).toInt) (h1 : (r.2 99 0).toInt < 1000000) (h84 : 1 ≤ (r.2 84 0).toInt) (hc : jCB n M (ua r 97 0 (r.2 97 0 + 1))) : JJ n (cF_X2_grow (n + 33) (r.1 1536) (r.2 97 0 + 1 - r.2 83 i) (r.1 1536 - r.2 72 i) (r.2 89 0) M) (qF_grows (nI i) r) TL CL := by
  have e0 : (0 : Int32).toNatClampNeg = 0 := rfl
  have hB := qE_grows (nI i) r
  rw [jI_N (by omega : i < 2147483648), hp] at hB
  replace hB := hB.trans (q_ste (b := 0) rfl)
  rw [e0] at hB
  replace hB := hB.trans (q_ste (b := ua r 97 0 (r.2 97 0 + 1)) rfl)
  have f1 : (ua r 97 0 (r.2 97 0 + 1)).1 1536 = r.1 1536 := rfl
  have f2 : (ua r 97 0 (r.2 97 0 + 1)).2 72 = r.2 72 := ua_n (by decide)
  have f3 : (ua r 97 0 (r.2 97 0 + 1)).2 97 0 = r.2 97 0 + 1 := ua_e
  have f4 : (ua r 97 0 (r.2 97 0 + 1)).2 83 = r.2 83 := ua_n (by decide)
  have f5 : (ua r 97 0 (r.2 97 0 + 1)).2 86 = r.2 86 := ua_n (by decide)
  have f6 : (ua r 97 0 (r.2 97 0 + 1)).2 99 = r.2 99 := ua_n (by decide)
  have f7 : (ua r 97 0 (r.2 97 0 + 1)).2 84 = r.2 84 := ua_n (by decide)
  have f8 : (ua r 97 0 (r.2 97 0 + 1)).2 85 = r.2 85 := ua_n (by decide)
  have f9 : (ua r 97 0 (r.2 97 0 + 1)).2 89 = r.2 89 := ua_n (by decide)
  generalize ua r 97 0 (r.2 97 0 + 1) = a at hB J hc f1 f2 f3 f4 f5 f6 f7 f8 f9
  have g1 : z_fi M 256 (n + 33) = r.2 86 0 := (js_256_33 J).trans (by rw [f5])
  have g2 : z_fi M 257 (n + 33) = r.2 84 0 := (js_257_33 J).trans (by rw [f7])
  have g3 : z_fi M 258 (n + 33) = r.2 85 0 := (js_258_33 J).trans (by rw [f8])
  rw [cE_X2_grow, g1, g2, g3]
  rw [f5] at hB
  by_cases c2 : r.2 86 0 = 2
  · rw [if_pos c2] at hB ⊢
    rw [q_maxe, f1, f2] at hB
    replace hB := hB.trans (q_ste2 (a := if 1 < r.1 1536 - r.2 72 i then r.1 1536 - r.2 72 i else 1) (b := a) rfl)
    rw [f3, f4] at hB
    generalize hw : (16 * (r.2 97 0 + 1 - r.2 83 i)) / (if 1 < r.1 1536 - r.2 72 i then r.1 1536 - r.2 72 i else 1) = w at hB ⊢
    replace hB := hB.trans (q_ste (b := w) rfl)
    have ei : ((8 * 0 + (a.2 99 0 - a.2 99 0 / 8 * 8) : Int32)).toNatClampNeg = (a.2 99 0 - a.2 99 0 / 8 * 8).toNatClampNeg := by rw [show (8 * 0 : Int32) = 0 from rfl, Int32.zero_add]
    rw [ei] at hB
    replace hB := hB.trans (q_ste (b := ua a 98 (a.2 99 0 - a.2 99 0 / 8 * 8).toNatClampNeg w) rfl)
    replace hB := hB.trans (q_ste (b := ua (ua a 98 (a.2 99 0 - a.2 99 0 / 8 * 8).toNatClampNeg w) 99 0 (a.2 99 0 + 1)) (by rw [ua_n (show 99 ≠ 98 by decide)]))
    have J1 := j_keep J (v := w) (by rw [f6]; exact h0) (by rw [f6]; exact h1)
    refine JJ.st (fun M18 e18 => ?_)
    rw [← e18] at J1
    have k9 : (ua (ua a 98 (a.2 99 0 - a.2 99 0 / 8 * 8).toNatClampNeg w) 99 0 (a.2 99 0 + 1)).2 89 0 = r.2 89 0 := by rw [ua_n (show 89 ≠ 99 by decide), ua_n (show 89 ≠ 98 by decide), f9]
    generalize ua (ua a 98 (a.2 99 0 - a.2 99 0 / 8 * 8).toNatClampNeg w) 99 0 (a.2 99 0 + 1) = b at hB J1 k9
    rw [show (0 : Int32) = nI 0 from rfl] at hB
    replace hB := hB.trans (q_gr96 8 0 (nI 0) rfl)
    refine JJ.cr hB ?_
    have ej : jmx (z_ai M18 (n + 34)) 8 0 0 = jmx (b.2 98) 8 0 (nI 0) := jmx_congr 8 0 0 (fun k hk => by rw [ja_34 J1 (by omega), Nat.zero_add])
    refine JJ.st2 (c_great J1.1) ?_
    rw [ej, k9]
    refine JJ.st (fun M20 e20 => ?_)
    exact J1.sa (x := 84) (j := 0) e20 (by decide) (by decide)
  · rw [if_neg c2] at hB ⊢
    rw [f7, f8] at hB
    by_cases c3 : r.2 85 0 ≤ r.2 84 0
    · rw [if_pos c3] at hB ⊢
      by_cases c4 : r.2 86 0 = 0
      · rw [if_pos c4] at hB ⊢
        rw [q_maxe] at hB
        replace hB := hB.trans (q_ste2 (a := if 1 < 256 / r.2 84 0 then 256 / r.2 84 0 else 1) (b := a) rfl)
        replace hB := hB.trans (q_ste (b := ua a 84 0 (r.2 84 0 + (if 1 < 256 / r.2 84 0 then 256 / r.2 84 0 else 1))) rfl)
        refine JJ.cr hB ?_
        rw [j_max1 h84]
        refine JJ.st (fun M14 e14 => ?_)
        exact J.sa (x := 84) (j := 0) e14 (by decide) (by decide)
      · rw [if_neg c4] at hB ⊢
        obtain ⟨v, k1, k2⟩ := hc (by rw [f5]; rcases h86 with h | h | h; exact absurd h c4; exact h; exact absurd h c2) (by rw [f7, f8]; exact c3)
        rw [f1] at k1
        replace hB := hB.trans (q_ste2 k2)
        replace hB := hB.trans (q_ste (b := ua a 84 0 (r.2 84 0 + v)) rfl)
        refine JJ.cr hB (JJ.st2 k1 ?_)
        refine JJ.st (fun M10 e10 => ?_)
        exact J.sa (x := 84) (j := 0) e10 (by decide) (by decide)
    · rw [if_neg c3] at hB ⊢
      replace hB := hB.trans (q_ste (b := ua a 84 0 (r.2 84 0 + 16)) rfl)
      refine JJ.cr hB ?_
      refine JJ.st (fun M16 e16 => ?_)
      exact J.sa (x := 84) (j := 0) e16 (by decide) (by decide)
end JGS
