/-! ===== THE LIKENESS: rows of bytes; what a stream has got ===== -/
section JGT
variable {n : Nat} {M M0 M1 M2 : z_Mem} {r r1 : q_R} {TL CL : List Nat} {t s q z : Nat} {d : Int} {f g : Nat → Int32}
/-- a row of ints, whole -/
def zA (M : z_Mem) (a : Nat) (f : Nat → Int32) : z_Mem := (M.1, M.2.1, M.2.2.1, M.2.2.2.1, fun x => if x = a then f else M.2.2.2.2.1 x, M.2.2.2.2.2)
theorem zA_ai {a x j : Nat} : z_ai (zA M a f) x j = if x = a then f j else z_ai M x j := by
  show (if x = a then f else z_ai M x) j = _
  split <;> rfl
theorem zA_fi {a : Nat} : z_fi (zA M a f) = z_fi M := rfl
theorem zA_fr {a : Nat} : z_fr (zA M a f) = z_fr M := rfl
theorem zA_ar {a : Nat} : z_ar (zA M a f) = z_ar M := rfl
theorem zA_ln {a : Nat} : z_ln (zA M a f) = z_ln M := rfl
theorem zA_sz {a : Nat} : z_sz (zA M a f) = z_sz M := rfl
theorem S_zA {a : Nat} (S : y_S n M) : y_S n (zA M a f) := S
theorem zA_id {a : Nat} : zA M a (z_ai M a) = M := by
  refine Prod.ext rfl (Prod.ext rfl (Prod.ext rfl (Prod.ext rfl (Prod.ext ?_ rfl))))
  funext x
  show (if x = a then z_ai M a else M.2.2.2.2.1 x) = M.2.2.2.2.1 x
  by_cases h : x = a
  · rw [if_pos h, h]; rfl
  · rw [if_neg h]
theorem zA_sai {a j : Nat} {v : Int32} : z_sai (zA M a f) a j v = zA M a (fun i => if i = j then v else f i) := by
  refine Prod.ext rfl (Prod.ext rfl (Prod.ext rfl (Prod.ext rfl (Prod.ext ?_ rfl))))
  funext x i
  show z_up (fun x => if x = a then f else M.2.2.2.2.1 x) a j v x i = (if x = a then (fun i => if i = j then v else f i) else M.2.2.2.2.1 x) i
  unfold z_up
  by_cases h : x = a
  · rw [if_pos h, if_pos h]
    by_cases h2 : i = j
    · rw [if_pos h2, if_pos h2]
    · rw [if_neg h2]; show (if x = a then f else M.2.2.2.2.1 x) i = (if i = j then v else f i); rw [if_pos h, if_neg h2]
  · rw [if_neg h, if_neg h]; show (if x = a then f else M.2.2.2.2.1 x) i = _; rw [if_neg h]
def rS (f : Nat → Int32) (lo m : Nat) (v : Int32) : Nat → Int32 := fun j => if lo ≤ j ∧ j < lo + m then v else f j
theorem rS_0 {lo : Nat} {v : Int32} : rS f lo 0 v = f := funext fun j => if_neg (by omega)
theorem rS_s {lo m : Nat} {v : Int32} : (fun i => if i = lo + m then v else rS f lo m v i) = rS f lo (m + 1) v := by
  funext i
  unfold rS
  by_cases h : i = lo + m
  · rw [if_pos h, if_pos (by omega)]
  · rw [if_neg h]
    by_cases h2 : lo ≤ i ∧ i < lo + m
    · rw [if_pos h2, if_pos (by omega)]
    · rw [if_neg h2, if_neg (by omega)]
theorem uA_ua {x j : Nat} {v : Int32} : ua (uA r x f) x j v = uA r x (fun i => if i = j then v else f i) := by
  refine Prod.ext rfl (funext fun y => funext fun i => ?_)
  rw [ua2]
  by_cases h : y = x
  · subst h
    rw [if_pos rfl, uA_e, uA_e]
  · rw [if_neg h, uA_n h, uA_n h]
theorem uA_id {x : Nat} : uA r x (r.2 x) = r := by
  refine Prod.ext rfl (funext fun y => ?_)
  by_cases h : y = x
  · subst h; rw [uA_e]
  · rw [uA_n h]
theorem c_mark6 {row a m : Nat} (hl : z_ln M row = 200) (ham : a + m ≤ 200) : ∀ k' k, k + k' = m → cF_X11_markRow_6 (some row) (nI a) (nI m) (nI (a + k)) (zA M row (rS (z_ai M row) a k 1)) = zA M row (rS (z_ai M row) a m 1) := by
  intro k'
  induction k' with
  | zero =>
    intro k hk
    have : k = m := by omega
    subst this
    have hB := cE_X11_markRow_6 (some row) (nI a) (nI k) (nI (a + k)) (zA M row (rS (z_ai M row) a k 1))
    rw [jI_add (by omega), if_pos ((jI_le (by omega) (by omega)).mpr (Nat.le_refl _))] at hB
    exact cUr_X11_markRow_6 hB
  | succ k' ih =>
    intro k hk
    have hB := cE_X11_markRow_6 (some row) (nI a) (nI m) (nI (a + k)) (zA M row (rS (z_ai M row) a k 1))
    rw [jI_add (by omega), if_neg (fun h => absurd ((jI_le (by omega) (by omega)).mp h) (by omega))] at hB
    replace hB := hB.trans (q_ste (b := row) rfl)
    rw [zA_ln, hl, if_neg (fun h => absurd ((jI_le (by omega) (by omega)).mp h) (by omega)), jI_N (by omega), zA_sai, rS_s] at hB
    replace hB := hB.trans (q_ste rfl)
    replace hB := hB.trans (q_ste (b := nI (a + (k + 1))) (by rw [jI_1, jI_add (by show a + k + 1 < _; omega)]; rfl))
    rw [cUl_X11_markRow_6 hB]
    exact ih (k + 1) (by omega)
theorem jI_max0 {a : Nat} (ha : a < 2147483648) : (if 0 < nI a then nI a else 0 : Int32) = nI a := by
  by_cases h : 0 < nI a
  · rw [if_pos h]
  · rw [if_neg h]
    have := i_nlt h (show (0 : Int32).toInt = 0 from rfl) (jI_t ha)
    have : a = 0 := by omega
    rw [this]; rfl
theorem c_mark {row a m : Nat} (hl : z_ln M row = 200) (ham : a + m ≤ 200) : cF_X11_markRow (some row) (nI a) (nI m) M = zA M row (rS (z_ai M row) a m 1) := by
  rw [cE_X11_markRow, jI_max0 (by omega)]
  refine (q_ste rfl).trans ?_
  have := c_mark6 (a := a) (m := m) hl ham m 0 (by omega)
  rw [rS_0, zA_id] at this
  exact this
theorem c_pref {row : Nat} (hl : z_ln M row = 200) : ∀ k g, g + k = 200 → ∃ g', g ≤ g' ∧ g' ≤ 200 ∧ cF_X11_lengthOfPrefix_6 (some row) (nI g) M = (nI g', M) ∧ (∀ j, g ≤ j → j < g' → ¬ z_ai M row j = 0) ∧ (g' < 200 → z_ai M row g' = 0) := by
  intro k
  induction k with
  | zero =>
    intro g hg
    have hB := cE_X11_lengthOfPrefix_6 (some row) (nI g) M
    replace hB := hB.trans (q_ste (b := row) rfl)
    rw [hl, if_pos ((jI_le (by omega) (by omega)).mpr (by omega))] at hB
    exact ⟨g, Nat.le_refl _, by omega, cUr_X11_lengthOfPrefix_6 hB, fun j h1 h2 => by omega, fun h => by omega⟩
  | succ k ih =>
    intro g hg
    have hB := cE_X11_lengthOfPrefix_6 (some row) (nI g) M
    replace hB := hB.trans (q_ste (b := row) rfl)
    rw [hl, if_neg (fun h => absurd ((jI_le (by omega) (by omega)).mp h) (by omega)), jI_N (by omega)] at hB
    by_cases c : z_ai M row g = 0
    · rw [if_pos c] at hB
      exact ⟨g, Nat.le_refl _, by omega, cUr_X11_lengthOfPrefix_6 hB, fun j h1 h2 => by omega, fun _ => c⟩
    · rw [if_neg c] at hB
      replace hB := hB.trans (q_ste (b := nI (g + 1)) (by rw [jI_1, jI_add (by show g + 1 < _; omega)]))
      obtain ⟨g', h1, h2, h3, h4, h5⟩ := ih (g + 1) (by omega)
      refine ⟨g', by omega, h2, (cUl_X11_lengthOfPrefix_6 hB).trans h3, fun j a b => ?_, h5⟩
      by_cases e : j = g
      · rw [e]; exact c
      · exact h4 j (by omega) b
theorem jl4 {s : Nat} (h : s < 4) : s = 0 ∨ s = 1 ∨ s = 2 ∨ s = 3 := by omega
theorem j_sfr (S : y_S n M) {s : Nat} (hs : s < 4) : z_fr M 1159 (n + (12 + 4 * s)) = some (n + (13 + 4 * s)) ∧ z_fr M 1160 (n + (12 + 4 * s)) = some (n + (14 + 4 * s)) ∧ z_fr M 1161 (n + (12 + 4 * s)) = some (n + (15 + 4 * s)) ∧ z_ln M (n + (13 + 4 * s)) = 200 ∧ z_ln M (n + (14 + 4 * s)) = 200 ∧ z_ln M (n + (15 + 4 * s)) = 200 := by
  rcases jl4 hs with rfl | rfl | rfl | rfl
  · exact ⟨s_1159_12 S, s_1160_12 S, s_1161_12 S, s_l13 S, s_l14 S, s_l15 S⟩
  · exact ⟨s_1159_16 S, s_1160_16 S, s_1161_16 S, s_l17 S, s_l18 S, s_l19 S⟩
  · exact ⟨s_1159_20 S, s_1160_20 S, s_1161_20 S, s_l21 S, s_l22 S, s_l23 S⟩
  · exact ⟨s_1159_24 S, s_1160_24 S, s_1161_24 S, s_l25 S, s_l26 S, s_l27 S⟩
theorem j_rows (J : JJ n M r TL CL) {s j : Nat} (hs : s < 4) (hj : j < 200) : z_ai M (n + (13 + 4 * s)) j = r.2 69 (200 * s + j) ∧ z_ai M (n + (14 + 4 * s)) j = r.2 70 (200 * s + j) ∧ z_ai M (n + (15 + 4 * s)) j = r.2 64 (200 * s + j) := by
  rcases jl4 hs with rfl | rfl | rfl | rfl
  · exact ⟨ja_13 J hj, ja_14 J hj, ja_15 J hj⟩
  · exact ⟨ja_17 J hj, ja_18 J hj, ja_19 J hj⟩
  · exact ⟨ja_21 J hj, ja_22 J hj, ja_23 J hj⟩
  · exact ⟨ja_25 J hj, ja_26 J hj, ja_27 J hj⟩
/-- bytes are got -/
theorem JJ.got (J : JJ n M r TL CL) {s a m : Nat} (hs : s < 4) (ham : a + m ≤ 200) : JJ n (cF_X9_arrive (n + (12 + 4 * s)) (nI a) (nI m) M) (uA r 64 (rS (r.2 64) (200 * s + a) m 1)) TL CL := by
  have F := j_sfr J.1 hs
  rw [cE_X9_arrive, F.2.2.1, c_mark F.2.2.2.2.2 ham]
  refine JJ.st (fun M2 e2 => ?_)
  obtain ⟨S, js, ja, X, P, Q, T, C⟩ := J
  obtain ⟨g, x1, x2, x3, x4⟩ := X.2.2.2.2.1 s hs
  have f2 : z_fi M2 = z_fi M := by rw [e2]; rfl
  have S2 : y_S n M2 := by rw [e2]; exact S
  have F2 := j_sfr S2 hs
  rw [F2.2.2.1, f2, x2, cE_X11_lengthOfPrefix, jI_max0 (by omega)]
  obtain ⟨g', h1, h2, h3, h4, h5⟩ := c_pref (M := M2) (row := n + (15 + 4 * s)) F2.2.2.2.2.2 (200 - g) g (by omega)
  refine JJ.st2 ((q_ste rfl).trans h3) (JJ.st (fun M6 e6 => ?_))
  have jrow : ∀ s', s' < 4 → ∀ j, j < 200 → z_ai M (n + (15 + 4 * s')) j = r.2 64 (200 * s' + j) := fun s' hs' j hj => (j_rows ⟨S, js, ja, X, P, Q, T, C⟩ hs' hj).2.2
  have row2 : ∀ j, j < 200 → z_ai M2 (n + (15 + 4 * s)) j = rS (r.2 64) (200 * s + a) m 1 (200 * s + j) := fun j hj => by
    rw [e2, zA_ai, if_pos rfl]
    unfold rS
    by_cases c : a ≤ j ∧ j < a + m
    · rw [if_pos c, if_pos (by omega)]
    · rw [if_neg c, if_neg (by omega)]; exact jrow s hs j hj
  have hn : ∀ x, x ≠ 64 → (uA r 64 (rS (r.2 64) (200 * s + a) m 1)).2 x = r.2 x := fun x hx => uA_n hx
  have fi6 : ∀ k b, ¬ (k = 1157 ∧ b = n + (12 + 4 * s)) → z_fi M6 k b = z_fi M k b := fun k b h => by
    rw [e6, zq_fi_sfi]
    by_cases c : k = 1157
    · rw [if_pos c, if_neg (fun e => h ⟨c, e⟩), f2]
    · rw [if_neg c, f2]
  have ai6 : ∀ b j, b ≠ n + (15 + 4 * s) → z_ai M6 b j = z_ai M b j := fun b j h => by rw [e6, zq_ai_sfi, e2, zA_ai, if_neg h]
  have H : hF n M M6 := ⟨by rw [e6, e2]; exact Nat.le_refl _, fun b h0 h1 => ⟨fun k => fi6 k b (by omega), fun k => by rw [e6, e2]; rfl, fun j => ai6 b j (by omega)⟩⟩
  have z6 : z_ar M6 = z_ar M := by rw [e6, e2]; rfl
  refine ⟨by rw [e6]; exact S_sfi S2, js.congr (fun t ht => fi6 _ _ (fun c => (show ∀ t, t ∈ jT → t.1 ≠ 1157 from by decide) t ht c.1)) (fun t ht => ?_), fun t ht j hj => ?_, ?_, P.congr H (by rw [z6]) rfl (fun t ht => hn _ (by revert ht; revert t; decide)), fun p hp => (Q p hp).congr H.m (by rw [z6]) (by rw [z6]) (fi6 _ _ (by omega)) rfl (by rw [hn 51 (by decide)]) (fun _ _ => by rw [hn 50 (by decide)]) (Nat.le_refl _) (fun x _ hx _ => by rw [hn x (by revert hx; revert x; decide)]), T.congr H.m (by rw [z6]) (by rw [z6]) (fi6 _ _ (by omega)) rfl (Nat.le_refl _) (Nat.le_refl _) (fun x _ hx _ => by rw [hn x (by revert hx; revert x; decide)]) (fun x _ hx _ => by rw [hn x (by revert hx; revert x; decide)]), C.congr H.m (by rw [z6]) (fi6 _ _ (by omega)) (Nat.le_refl _) (by rw [hn 61 (by decide)]; exact C.2.2.2.1) (Nat.le_refl _) (fun _ _ _ _ => by rw [hn 61 (by decide)]) (fun x _ hx _ => by rw [hn x (by revert hx; revert x; decide)])⟩
  · have h64 : t.2.2.1 ≠ 64 := by revert ht; revert t; decide
    unfold j_loc
    by_cases c : t.2.2.1 = 0
    · rw [if_pos c, if_pos c]; rfl
    · rw [if_neg c, if_neg c, hn _ h64]
  · have hJ := ja t ht j hj
    by_cases c : t.2.2.1 = 64
    · obtain ⟨s', hs', rfl⟩ : ∃ s', s' < 4 ∧ t = (15 + 4 * s', 200, 64, 200 * s') := by
        have : ∀ t, t ∈ jR → t.2.2.1 = 64 → t = (15, 200, 64, 0) ∨ t = (19, 200, 64, 200) ∨ t = (23, 200, 64, 400) ∨ t = (27, 200, 64, 600) := by decide
        rcases this t ht c with h | h | h | h
        · exact ⟨0, by omega, h⟩
        · exact ⟨1, by omega, h⟩
        · exact ⟨2, by omega, h⟩
        · exact ⟨3, by omega, h⟩
      show z_ai M6 (n + (15 + 4 * s')) j = (uA r 64 (rS (r.2 64) (200 * s + a) m 1)).2 64 (200 * s' + j)
      have hj : j < 200 := hj
      rw [uA_e]
      by_cases e : s' = s
      · subst e
        rw [e6, zq_ai_sfi]; exact row2 j hj
      · rw [ai6 _ _ (by omega), jrow s' hs' j hj]
        unfold rS
        rw [if_neg (by omega)]
    · rw [hn _ c, ai6 _ _ ?_]
      · exact hJ
      · have : ∀ t, t ∈ jR → t.2.2.1 ≠ 64 → t.1 ≠ 15 ∧ t.1 ≠ 19 ∧ t.1 ≠ 23 ∧ t.1 ≠ 27 := by decide
        have := this t ht c
        omega
  · obtain ⟨y1, y2, y3, y4, y5, y6, y7, y8, y9, y10⟩ := X
    refine ⟨fun p hp => ?_, ?_, ?_, fun s' hs' => ?_, fun s' hs' => ?_, fun p hp => ?_, ?_, fun p hp => ?_, fun p hp h => ?_, ?_⟩
    · rw [fi6 _ _ (by omega), hn 45 (by decide)]; exact y1 p hp
    · rw [fi6 _ _ (by omega)]; exact y2
    · rw [fi6 _ _ (by omega)]; exact y3
    · have e : j_lost (uA r 64 (rS (r.2 64) (200 * s + a) m 1)) s' = j_lost r s' := by unfold j_lost; rw [hn 67 (by decide), hn 69 (by decide), hn 70 (by decide)]
      rw [fi6 _ _ (by omega), e]; exact y4 s' hs'
    · by_cases e : s' = s
      · subst e
        refine ⟨g', h2, by rw [e6, zq_fi_sfi, if_pos rfl, if_pos rfl], fun j hj => ?_, fun hg => ?_⟩
        · rw [uA_e, ← row2 j (by omega)]
          by_cases c : j < g
          · have := x3 j c
            rw [row2 j (by omega)]
            unfold rS
            by_cases c2 : 200 * s' + a ≤ 200 * s' + j ∧ 200 * s' + j < 200 * s' + a + m
            · rw [if_pos c2]; decide
            · rw [if_neg c2]; exact this
          · exact h4 j (by omega) hj
        · rw [uA_e, ← row2 g' hg]; exact h5 hg
      · obtain ⟨g2, b1, b2, b3, b4⟩ := y5 s' hs'
        have hr : ∀ j, j < 200 → (uA r 64 (rS (r.2 64) (200 * s + a) m 1)).2 64 (200 * s' + j) = r.2 64 (200 * s' + j) := fun j hj => by
          rw [uA_e]; unfold rS; rw [if_neg (by omega)]
        exact ⟨g2, b1, by rw [fi6 _ _ (by omega)]; exact b2, fun j hj => by rw [hr j (by omega)]; exact b3 j hj, fun hg => by rw [hr g2 hg]; exact b4 hg⟩
    · have e : j_fl (uA r 64 (rS (r.2 64) (200 * s + a) m 1)) p = j_fl r p := by unfold j_fl; rw [hn 71 (by decide), hn 76 (by decide)]
      rw [fi6 _ _ (by omega), e]; exact y6 p hp
    · rw [fi6 _ _ (by omega), hn 76 (by decide)]; exact y7
    · rw [fi6 _ _ (by omega), hn 99 (by decide)]; exact y8 p hp
    · rw [hn 100 (by decide)] at h
      rw [fi6 _ _ (by omega), fi6 _ _ (by omega), hn 103 (by decide), hn 104 (by decide)]; exact y9 p hp h
    · rw [fi6 _ _ (by omega)]; exact y10
end JGT
