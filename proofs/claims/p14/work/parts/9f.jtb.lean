/-! ===== THE LIKENESS: a harm is taken back; the row of rates of the path 0 ===== -/
section JTB
variable {n : Nat} {M M0 M1 M2 : z_Mem} {r r1 : q_R} {TL CL : List Nat} {t s q z : Nat} {d : Int} {f g : Nat → Int32}
/-- the reference's taking back of a harm -/
def q_tb (v : Int32) (r : q_R) : q_R := if r.2 102 0 = v then ua (ua (ua r 102 0 (-1)) 84 0 (if r.2 84 0 < r.2 103 0 then r.2 103 0 else r.2 84 0)) 85 0 (if r.2 85 0 < r.2 104 0 then r.2 104 0 else r.2 85 0) else r
theorem q_h50e {i m : Nat} (hi : i < 400) (hm : r.2 75 i = nI m) (hk : ¬ r.2 76 i = 0) : qF_hearsOf_50 (nI i) 0 (nI m) r = q_tb (nI i) (ua (ua r 76 i 3) 106 1 (r.2 106 1 + 1)) := by
  have e0 : (0 : Int32).toNatClampNeg = 0 := rfl
  have e1 : (1 : Int32).toNatClampNeg = 1 := rfl
  have hB := qE_hearsOf_50 (nI i) 0 (nI m) r
  rw [jI_N (by omega : i < 2147483648), e0, e1, if_pos (by rw [hm, Int32.le_iff_toInt_le]; omega), if_neg hk] at hB
  replace hB := hB.trans (q_ste (b := ua r 76 i 3) rfl)
  replace hB := hB.trans (q_ste (b := ua (ua r 76 i 3) 106 1 (r.2 106 1 + 1)) (by rw [ua_n (by decide)]))
  generalize ua (ua r 76 i 3) 106 1 (r.2 106 1 + 1) = a at hB
  unfold q_tb
  by_cases c : a.2 102 0 = nI i
  · rw [if_pos c] at hB ⊢
    replace hB := hB.trans (q_ste (b := ua a 102 0 (-1)) rfl)
    rw [q_maxe] at hB
    replace hB := hB.trans (q_ste2 (a := if a.2 84 0 < a.2 103 0 then a.2 103 0 else a.2 84 0) (b := ua a 102 0 (-1)) (by rw [ua_n (show 84 ≠ 102 by decide), ua_n (show 103 ≠ 102 by decide)]))
    replace hB := hB.trans (q_ste (b := ua (ua a 102 0 (-1)) 84 0 (if a.2 84 0 < a.2 103 0 then a.2 103 0 else a.2 84 0)) rfl)
    generalize hv : (if a.2 84 0 < a.2 103 0 then a.2 103 0 else a.2 84 0) = w at hB ⊢
    rw [q_maxe] at hB
    replace hB := hB.trans (q_ste2 (a := if a.2 85 0 < a.2 104 0 then a.2 104 0 else a.2 85 0) (b := ua (ua a 102 0 (-1)) 84 0 w) (by rw [ua_n (show 85 ≠ 84 by decide), ua_n (show 85 ≠ 102 by decide), ua_n (show 104 ≠ 84 by decide), ua_n (show 104 ≠ 102 by decide)]))
    replace hB := hB.trans (q_ste (b := ua (ua (ua a 102 0 (-1)) 84 0 w) 85 0 (if a.2 85 0 < a.2 104 0 then a.2 104 0 else a.2 85 0)) rfl)
    exact qUr_hearsOf_50 hB
  · rw [if_neg c] at hB ⊢
    exact qUr_hearsOf_50 hB
theorem j_takeBack (J : JJ n M r TL CL) {v : Int32} (h : r.2 102 0 = v → ¬ r.2 100 0 = 0) : JJ n (cF_X2_takeBackHarm (n + 33) v M) (q_tb v r) TL CL := by
  rw [cE_X2_takeBackHarm, js_264_33 J]
  unfold q_tb
  by_cases c : r.2 102 0 = v
  · rw [if_pos c, if_pos c.symm]
    have X9 := J.2.2.2.1.2.2.2.2.2.2.2.2.1 0 (by decide) (h c)
    have k1 : z_fi M 260 (n + 33) = r.2 103 0 := X9.1
    have k2 : z_fi M 261 (n + 33) = r.2 104 0 := X9.2
    refine JJ.st (fun M3 e3 => JJ.st (fun M6 e6 => JJ.st (fun M9 e9 => ?_)))
    have J3 := J.sa (x := 102) (j := 0) e3 (by decide) (by decide)
    have a1 : z_fi M3 257 (n + 33) = r.2 84 0 := (js_257_33 J3).trans (by rw [ua_n (by decide)])
    have a2 : z_fi M3 260 (n + 33) = r.2 103 0 := by rw [e3, zq_fi_sfi, if_neg (by decide)]; exact k1
    rw [a1, a2] at e6
    have J6 := J3.sa (x := 84) (j := 0) e6 (by decide) (by decide)
    have b1 : z_fi M6 258 (n + 33) = r.2 85 0 := (js_258_33 J6).trans (by rw [ua_n (by decide), ua_n (by decide)])
    have b2 : z_fi M6 261 (n + 33) = r.2 104 0 := by rw [e6, zq_fi_sfi, if_neg (by decide), e3, zq_fi_sfi, if_neg (by decide)]; exact k2
    rw [b1, b2] at e9
    exact J6.sa (x := 85) (j := 0) e9 (by decide) (by decide)
  · rw [if_neg c, if_neg (fun e => c e.symm)]
    exact J
/-- a rate is kept -/
theorem JJ.rate (J : JJ n M r TL CL) {i : Nat} {v : Int32} (hi : i < 8) (h0 : 0 ≤ (r.2 99 0).toInt) (h1 : (r.2 99 0).toInt < 1000000) (e : M1 = z_sfi (z_sai M (n + 34) i v) 266 (n + 33) ((z_fi M 266 (n + 33) + 1) - (z_fi M 266 (n + 33) + 1) / 8 * 8)) : JJ n M1 (ua (ua r 98 i v) 99 0 (r.2 99 0 + 1)) TL CL := by
  obtain ⟨S, js, ja, X, P, Q, T, C⟩ := J
  have e8 : z_fi M 266 (n + 33) = r.2 99 0 - r.2 99 0 / 8 * 8 := X.2.2.2.2.2.2.2.1 0 (by decide)
  have ew : (z_fi M 266 (n + 33) + 1) - (z_fi M 266 (n + 33) + 1) / 8 * 8 = (r.2 99 0 + 1) - (r.2 99 0 + 1) / 8 * 8 := by
    rw [e8]
    have k1 := i_modE8 rfl h0
    have k2 : (r.2 99 0 - r.2 99 0 / 8 * 8 + 1).toInt = (r.2 99 0).toInt % 8 + 1 := i_addE k1 rfl (by omega) (by omega)
    have k3 : (r.2 99 0 + 1).toInt = (r.2 99 0).toInt + 1 := i_addE rfl rfl (by omega) (by omega)
    refine Int32.toInt_inj.mp ?_
    rw [i_modE8 k2 (by omega), i_modE8 k3 (by omega)]
    omega
  rw [ew] at e
  subst e
  have hn : ∀ x, x ≠ 98 → x ≠ 99 → (ua (ua r 98 i v) 99 0 (r.2 99 0 + 1)).2 x = r.2 x := fun x h1 h2 => by rw [ua_n h2, ua_n h1]
  generalize hw : (r.2 99 0 + 1) - (r.2 99 0 + 1) / 8 * 8 = w
  have fi : ∀ k c, ¬ (k = 266 ∧ c = 33) → z_fi (z_sfi (z_sai M (n + 34) i v) 266 (n + 33) w) k (n + c) = z_fi M k (n + c) := fun k c h1 => jfi h1
  have H : hF n M (z_sfi (z_sai M (n + 34) i v) 266 (n + 33) w) := hF_tr (hF_sai (by omega)) (hF_sfi (by omega))
  refine ⟨S_sfi (S_sai S), js.congr (fun t ht => ?_) (fun t ht => ?_), fun t ht j hj => ?_, ?_, P.congr H rfl rfl (fun t ht => hn _ (by revert ht; revert t; decide) (by revert ht; revert t; decide)), fun p hp => (Q p hp).congr H.m rfl rfl (fi _ _ (by omega)) rfl (by rw [hn 51 (by decide) (by decide)]) (fun _ _ => by rw [hn 50 (by decide) (by decide)]) (Nat.le_refl _) (fun y _ hy _ => by rw [hn y (by revert hy; revert y; decide) (by revert hy; revert y; decide)]), T.congr H.m rfl rfl (fi _ _ (by omega)) rfl (Nat.le_refl _) (Nat.le_refl _) (fun y _ hy _ => by rw [hn y (by revert hy; revert y; decide) (by revert hy; revert y; decide)]) (fun y _ hy _ => by rw [hn y (by revert hy; revert y; decide) (by revert hy; revert y; decide)]), C.congr H.m rfl (fi _ _ (by omega)) (Nat.le_refl _) (by rw [hn 61 (by decide) (by decide)]; exact C.2.2.2.1) (Nat.le_refl _) (fun _ _ _ _ => by rw [hn 61 (by decide) (by decide)]) (fun y _ hy _ => by rw [hn y (by revert hy; revert y; decide) (by revert hy; revert y; decide)])⟩
  · have : t.1 ≠ 266 := by revert ht; revert t; decide
    exact fi _ _ (fun e => this e.1)
  · have h1 : t.2.2.1 ≠ 98 ∧ t.2.2.1 ≠ 99 := by revert ht; revert t; decide
    unfold j_loc
    by_cases c : t.2.2.1 = 0
    · rw [if_pos c, if_pos c]; rfl
    · rw [if_neg c, if_neg c, hn _ h1.1 h1.2]
  · have hJ := ja t ht j hj
    have hR : ∀ t, t ∈ jR → (t.1 = 34 ∧ t.2.2.1 = 98 ∧ t.2.2.2 = 0) ∨ (t.1 = 37 ∧ t.2.2.1 = 98 ∧ t.2.2.2 = 8) ∨ (t.1 ≠ 34 ∧ t.2.2.1 ≠ 98 ∧ t.2.2.1 ≠ 99) := by decide
    show z_ai (z_sai M (n + 34) i v) (n + t.1) j = _
    rw [zq_ai_sai]
    rcases hR t ht with ⟨b1, b2, b3⟩ | ⟨b1, b2, b3⟩ | ⟨b1, b2, b3⟩
    · rw [b1, b2, b3, Nat.zero_add] at hJ ⊢
      rw [if_pos rfl, ua_n (by decide), ua2, if_pos rfl]
      by_cases c2 : j = i
      · rw [if_pos c2, if_pos c2]
      · rw [if_neg c2, if_neg c2]; exact hJ
    · rw [b1, b2, b3] at hJ ⊢
      rw [if_neg (by omega), ua_n (by decide), ua_i (by omega)]
      exact hJ
    · rw [if_neg (by omega), hn _ b2 b3]; exact hJ
  obtain ⟨y1, y2, y3, y4, y5, y6, y7, y8, y9, y10⟩ := X
  have l1 : ∀ s', j_lost (ua (ua r 98 i v) 99 0 (r.2 99 0 + 1)) s' = j_lost r s' := fun s' => by unfold j_lost; rw [hn 67 (by decide) (by decide), hn 69 (by decide) (by decide), hn 70 (by decide) (by decide)]
  have l2 : ∀ p, j_fl (ua (ua r 98 i v) 99 0 (r.2 99 0 + 1)) p = j_fl r p := fun p => by unfold j_fl; rw [hn 71 (by decide) (by decide), hn 76 (by decide) (by decide)]
  refine ⟨fun p hp => ?_, ?_, ?_, fun s' hs' => ?_, fun s' hs' => ?_, fun p hp => ?_, ?_, fun p hp => ?_, fun p hp h => ?_, ?_⟩
  · rw [fi _ _ (by omega), hn 45 (by decide) (by decide)]; exact y1 p hp
  · rw [fi _ _ (by omega)]; exact y2
  · rw [fi _ _ (by omega)]; exact y3
  · rw [fi _ _ (by omega), l1]; exact y4 s' hs'
  · rw [fi _ _ (by omega), hn 64 (by decide) (by decide)]; exact y5 s' hs'
  · rw [fi _ _ (by omega), l2]; exact y6 p hp
  · rw [fi _ _ (by omega), hn 76 (by decide) (by decide)]; exact y7
  · have l : p = 0 ∨ p = 1 := by omega
    rcases l with rfl | rfl
    · show z_fi (z_sfi (z_sai M (n + 34) i v) 266 (n + 33) w) 266 (n + 33) = _
      rw [zq_fi_sfi, if_pos rfl, if_pos rfl, ua_e]; exact hw.symm
    · rw [fi _ _ (by omega), ua_i (by decide), ua_n (by decide)]; exact y8 1 (by omega)
  · rw [hn 100 (by decide) (by decide)] at h
    rw [fi _ _ (by omega), fi _ _ (by omega), hn 103 (by decide) (by decide), hn 104 (by decide) (by decide)]
    exact y9 p hp h
  · rw [fi _ _ (by omega)]; exact y10
end JTB
