/-! ===== THE LIKENESS: measures and harms of the path 0 ===== -/
section JHM
variable {n : Nat} {M M0 M1 M2 : z_Mem} {r r1 : q_R} {TL CL : List Nat} {t s q z : Nat} {d : Int} {f g : Nat → Int32}
theorem ua_rev3 {x y w i j k : Nat} {a b c : Int32} (h1 : x ≠ y) (h2 : x ≠ w) (h3 : y ≠ w) : ua (ua (ua r x i a) y j b) w k c = ua (ua (ua r w k c) y j b) x i a :=
  (congrArg (fun z => ua z w k c) (ua_comm h1)).trans ((ua_comm h2).trans (congrArg (fun z => ua z x i a) (ua_comm h3)))
theorem j_min {x y : Int32} : (if x < y then x else y) = (if y ≤ x then y else x) := by
  by_cases h : x < y
  · rw [if_pos h, if_neg (by rw [Int32.lt_iff_toInt_lt] at h; rw [Int32.le_iff_toInt_le]; omega)]
  · rw [if_neg h, if_pos (by rw [Int32.lt_iff_toInt_lt] at h; rw [Int32.le_iff_toInt_le]; omega)]
theorem j_measure (J : JJ n M r TL CL) {v : Int32} : JJ n (cF_X7_measure (n + 32) v M) (qF_measures 0 v r) TL CL := by
  have e0 : (0 : Int32).toNatClampNeg = 0 := rfl
  rw [cE_X7_measure, qE_measures, e0]
  refine JJ.st (fun M1 e1 => ?_)
  have J1 := J.sa (x := 90) (j := 0) e1 (by decide) (by decide)
  rw [js_904_32 J1]
  refine JJ.cr (q_ste (b := ua r 90 0 v) rfl) ?_
  by_cases c : (ua r 90 0 v).2 91 0 = 0
  · rw [if_pos c, if_pos c]
    have er : (q_st (ua (ua r 90 0 v) 91 0 1) fun r2 => q_st (ua r2 87 0 (8 * v)) fun r3 => q_st (ua r3 88 0 (2 * v)) fun r4 => q_st (ua r4 89 0 v) fun r5 => r5) = ua (ua (ua (ua (ua r 90 0 v) 91 0 1) 89 0 v) 88 0 (2 * v)) 87 0 (8 * v) := ua_rev3 (r := ua (ua r 90 0 v) 91 0 1) (by decide) (by decide) (by decide)
    refine JJ.cr er ?_
    refine JJ.st (fun M4 e4 => JJ.st (fun M5 e5 => JJ.st (fun M6 e6 => JJ.st (fun M7 e7 => ?_))))
    exact (((J1.sa (x := 91) (j := 0) e4 (by decide) (by decide)).sa (x := 89) (j := 0) e5 (by decide) (by decide)).sa (x := 88) (j := 0) e6 (by decide) (by decide)).sa (x := 87) (j := 0) e7 (by decide) (by decide)
  · rw [if_neg c, if_neg c, js_902_32 J1]
    have er : ∀ w : Int32, qF_measures_75 0 v 89 0 w (ua r 90 0 v) = ua (ua (ua (ua r 90 0 v) 89 0 w) 88 0 (r.2 88 0 + ((if 0 ≤ v - r.2 87 0 / 8 then v - r.2 87 0 / 8 else 0 - (v - r.2 87 0 / 8)) - r.2 88 0 / 4))) 87 0 (r.2 87 0 + (v - r.2 87 0 / 8)) := fun w => by
      have e105 : ∀ y : Int32, qF_measures_105 0 v 88 0 (r.2 88 0) y (ua (ua r 90 0 v) 89 0 w) = ua (ua (ua (ua r 90 0 v) 89 0 w) 88 0 (r.2 88 0 + (y - r.2 88 0 / 4))) 87 0 (r.2 87 0 + (v - r.2 87 0 / 8)) := fun y => by rw [qE_measures_105]; rfl
      rw [qE_measures_75]
      refine (q_ste rfl).trans ?_
      refine (q_ste (b := v - r.2 87 0 / 8) rfl).trans ?_
      by_cases c2 : 0 ≤ v - r.2 87 0 / 8
      · rw [if_pos c2, if_pos c2]; exact e105 _
      · rw [if_neg c2, if_neg c2, Int32.zero_sub]; exact e105 _
    have em : (if (ua r 90 0 v).2 89 0 ≤ v then qF_measures_75 0 v 89 0 ((ua r 90 0 v).2 89 0) (ua r 90 0 v) else qF_measures_75 0 v 89 0 v (ua r 90 0 v)) = qF_measures_75 0 v 89 0 (if v < (ua r 90 0 v).2 89 0 then v else (ua r 90 0 v).2 89 0) (ua r 90 0 v) := by
      rw [j_min]; split <;> rfl
    refine JJ.cr (em.trans (er _)) ?_
    refine JJ.st (fun M9 e9 => ?_)
    have J9 := J1.sa (x := 89) (j := 0) e9 (by decide) (by decide)
    have a87 : z_fi M9 900 (n + 32) = r.2 87 0 := (js_900_32 J9).trans (by rw [ua_n (by decide), ua_n (by decide)])
    have a88 : z_fi M9 901 (n + 32) = r.2 88 0 := (js_901_32 J9).trans (by rw [ua_n (by decide), ua_n (by decide)])
    rw [a87, a88]
    refine JJ.st (fun M13 e13 => ?_)
    have J13 := J9.sa (x := 88) (j := 0) e13 (by decide) (by decide)
    have b87 : z_fi M13 900 (n + 32) = r.2 87 0 := by rw [e13, zq_fi_sfi, if_neg (by decide)]; exact a87
    rw [b87]
    refine JJ.st (fun M16 e16 => ?_)
    exact J13.sa (x := 87) (j := 0) e16 (by decide) (by decide)
/-- what a harm keeps of the window and the bound -/
theorem JJ.harm (J : JJ n M r TL CL) {w b p3 : Int32} (e : M1 = z_sfi (z_sfi (z_sfi M 260 (n + 33) w) 261 (n + 33) b) 263 (n + 33) p3) : JJ n M1 (ua (ua (ua r 100 0 p3) 103 0 w) 104 0 b) TL CL := by
  subst e
  obtain ⟨S, js, ja, X, P, Q, T, C⟩ := J
  have hn : ∀ x, x ≠ 100 → x ≠ 103 → x ≠ 104 → (ua (ua (ua r 100 0 p3) 103 0 w) 104 0 b).2 x = r.2 x := fun x h1 h2 h3 => by rw [ua_n h3, ua_n h2, ua_n h1]
  have fi : ∀ k c, ¬ (k = 260 ∧ c = 33) → ¬ (k = 261 ∧ c = 33) → ¬ (k = 263 ∧ c = 33) → z_fi (z_sfi (z_sfi (z_sfi M 260 (n + 33) w) 261 (n + 33) b) 263 (n + 33) p3) k (n + c) = z_fi M k (n + c) := fun k c h1 h2 h3 => by rw [jfi h3, jfi h2, jfi h1]
  have H : hF n M (z_sfi (z_sfi (z_sfi M 260 (n + 33) w) 261 (n + 33) b) 263 (n + 33) p3) := hF_tr (hF_tr (hF_sfi (by omega)) (hF_sfi (by omega))) (hF_sfi (by omega))
  have js1 : JS n (z_sfi (z_sfi (z_sfi M 260 (n + 33) w) 261 (n + 33) b) 263 (n + 33) p3) (ua (ua (ua r 100 0 p3) 103 0 w) 104 0 b) := by
    refine JS.ra (JS.ra ?_ (by decide)) (by decide)
    exact JS.sa (JS.fc (JS.fc js (by decide)) (by decide)) (by decide)
  refine ⟨S_sfi (S_sfi (S_sfi S)), js1, ja.congr (fun _ _ _ _ => rfl) (fun t ht => hn _ (by revert ht; revert t; decide) (by revert ht; revert t; decide) (by revert ht; revert t; decide)), ?_, P.congr H rfl rfl (fun t ht => hn _ (by revert ht; revert t; decide) (by revert ht; revert t; decide) (by revert ht; revert t; decide)), fun p hp => (Q p hp).congr H.m rfl rfl (fi _ _ (by omega) (by omega) (by omega)) rfl (by rw [hn 51 (by decide) (by decide) (by decide)]) (fun _ _ => by rw [hn 50 (by decide) (by decide) (by decide)]) (Nat.le_refl _) (fun y _ hy _ => by rw [hn y (by revert hy; revert y; decide) (by revert hy; revert y; decide) (by revert hy; revert y; decide)]), T.congr H.m rfl rfl (fi _ _ (by omega) (by omega) (by omega)) rfl (Nat.le_refl _) (Nat.le_refl _) (fun y _ hy _ => by rw [hn y (by revert hy; revert y; decide) (by revert hy; revert y; decide) (by revert hy; revert y; decide)]) (fun y _ hy _ => by rw [hn y (by revert hy; revert y; decide) (by revert hy; revert y; decide) (by revert hy; revert y; decide)]), C.congr H.m rfl (fi _ _ (by omega) (by omega) (by omega)) (Nat.le_refl _) (by rw [hn 61 (by decide) (by decide) (by decide)]; exact C.2.2.2.1) (Nat.le_refl _) (fun _ _ _ _ => by rw [hn 61 (by decide) (by decide) (by decide)]) (fun y _ hy _ => by rw [hn y (by revert hy; revert y; decide) (by revert hy; revert y; decide) (by revert hy; revert y; decide)])⟩
  obtain ⟨y1, y2, y3, y4, y5, y6, y7, y8, y9, y10⟩ := X
  have l1 : ∀ s', j_lost (ua (ua (ua r 100 0 p3) 103 0 w) 104 0 b) s' = j_lost r s' := fun s' => by unfold j_lost; rw [hn 67 (by decide) (by decide) (by decide), hn 69 (by decide) (by decide) (by decide), hn 70 (by decide) (by decide) (by decide)]
  have l2 : ∀ p, j_fl (ua (ua (ua r 100 0 p3) 103 0 w) 104 0 b) p = j_fl r p := fun p => by unfold j_fl; rw [hn 71 (by decide) (by decide) (by decide), hn 76 (by decide) (by decide) (by decide)]
  refine ⟨fun p hp => ?_, ?_, ?_, fun s' hs' => ?_, fun s' hs' => ?_, fun p hp => ?_, ?_, fun p hp => ?_, fun p hp h => ?_, ?_⟩
  · rw [fi _ _ (by omega) (by omega) (by omega), hn 45 (by decide) (by decide) (by decide)]; exact y1 p hp
  · rw [fi _ _ (by omega) (by omega) (by omega)]; exact y2
  · rw [fi _ _ (by omega) (by omega) (by omega)]; exact y3
  · rw [fi _ _ (by omega) (by omega) (by omega), l1]; exact y4 s' hs'
  · rw [fi _ _ (by omega) (by omega) (by omega), hn 64 (by decide) (by decide) (by decide)]; exact y5 s' hs'
  · rw [fi _ _ (by omega) (by omega) (by omega), l2]; exact y6 p hp
  · rw [fi _ _ (by omega) (by omega) (by omega), hn 76 (by decide) (by decide) (by decide)]; exact y7
  · rw [fi _ _ (by omega) (by omega) (by omega), hn 99 (by decide) (by decide) (by decide)]; exact y8 p hp
  · have l : p = 0 ∨ p = 1 := by omega
    rcases l with rfl | rfl
    · refine ⟨?_, ?_⟩
      · show z_fi (z_sfi (z_sfi (z_sfi M 260 (n + 33) w) 261 (n + 33) b) 263 (n + 33) p3) 260 (n + 33) = _
        rw [zq_fi_sfi, if_neg (by decide), zq_fi_sfi, if_neg (by decide), zq_fi_sfi, if_pos rfl, if_pos rfl, ua_n (by decide), ua_e]
      · show z_fi (z_sfi (z_sfi (z_sfi M 260 (n + 33) w) 261 (n + 33) b) 263 (n + 33) p3) 261 (n + 33) = _
        rw [zq_fi_sfi, if_neg (by decide), zq_fi_sfi, if_pos rfl, if_pos rfl, ua_e]
    · rw [ua_n (by decide), ua_n (by decide), ua_i (by decide)] at h
      rw [fi _ _ (by omega) (by omega) (by omega), fi _ _ (by omega) (by omega) (by omega), ua_n (show 103 ≠ 104 by decide), ua_i (show 1 ≠ 0 by decide), ua_n (show 103 ≠ 100 by decide), ua_i (show 1 ≠ 0 by decide), ua_n (show 104 ≠ 103 by decide), ua_n (show 104 ≠ 100 by decide)]
      exact y9 1 (by omega) h
  · rw [fi _ _ (by omega) (by omega) (by omega)]; exact y10
end JHM
