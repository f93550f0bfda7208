/-! ===== THE LIKENESS at the face: foreign things ===== -/
section JM2
variable {n : Nat} {M M0 M1 M2 : z_Mem} {r r1 r2 : q_R} {TL CL : List Nat} {p1 p2 p3 p4 p5 : Int32} {t s q z c w : Nat} {D : Int}
theorem JJ.foreign (J : JJ n M r TL CL) (B : ∀ i, 0 ≤ (r.2 51 i).toInt ∧ (r.2 51 i).toInt ≤ 30) {p : Nat} (hp : p < 2) (hl : (r.2 51 p).toInt < 30) (e1 : M1 = z_sar M (n + (3 + 2 * p)) ((jN (z_fi M 394 (n + (2 + 2 * p))) + jN (r.2 51 p)) % 30) (some (n + 10))) (e2 : M2 = z_sfi M1 395 (n + (2 + 2 * p)) (r.2 51 p + 1)) : JJ n M2 (ua (ua r 50 (30 * p + jN (r.2 51 p)) (-1)) 51 p (r.2 51 p + 1)) TL CL := by
  subst e1
  subst e2
  obtain ⟨Q0, Q1⟩ := B p
  have eQ := jN_toInt Q0
  obtain ⟨S, js, ja, X, P, Q, T, C⟩ := J
  generalize hQ : jN (r.2 51 p) = k0 at *
  have w5 : ∀ {x : Nat}, x ≠ 51 → x ≠ 50 → (ua (ua r 50 (30 * p + k0) (-1)) 51 p (r.2 51 p + 1)).2 x = r.2 x := fun a b => by rw [ua_n a, ua_n b]
  have w50 : ∀ {j : Nat}, j ≠ 30 * p + k0 → (ua (ua r 50 (30 * p + k0) (-1)) 51 p (r.2 51 p + 1)).2 50 j = r.2 50 j := fun h => by rw [ua_n (by decide), ua_i h]
  have w51 : ∀ {j : Nat}, j ≠ p → (ua (ua r 50 (30 * p + k0) (-1)) 51 p (r.2 51 p + 1)).2 51 j = r.2 51 j := fun h => by rw [ua_i h, ua_n (by decide)]
  have x50 : (ua (ua r 50 (30 * p + k0) (-1)) 51 p (r.2 51 p + 1)).2 50 (30 * p + k0) = -1 := by rw [ua_n (by decide), ua_e]
  have x51 : (ua (ua r 50 (30 * p + k0) (-1)) 51 p (r.2 51 p + 1)).2 51 p = r.2 51 p + 1 := by rw [ua_e]
  have w1 : ∀ {g : Nat}, (ua (ua r 50 (30 * p + k0) (-1)) 51 p (r.2 51 p + 1)).1 g = r.1 g := rfl
  have js1 : JS n (z_sfi (z_sar M (n + (3 + 2 * p)) ((jN (z_fi M 394 (n + (2 + 2 * p))) + k0) % 30) (some (n + 10))) 395 (n + (2 + 2 * p)) (r.2 51 p + 1)) (ua (ua r 50 (30 * p + k0) (-1)) 51 p (r.2 51 p + 1)) := by
    have j4 : JS n (z_sar M (n + (3 + 2 * p)) ((jN (z_fi M 394 (n + (2 + 2 * p))) + k0) % 30) (some (n + 10))) (ua r 50 (30 * p + k0) (-1)) := JS.ra (js.congr (fun _ _ => rfl) (fun _ _ => rfl)) (by decide)
    rcases jl2 hp with rfl | rfl
    · exact j4.sa (by decide)
    · exact j4.sa (by decide)
  generalize (ua (ua r 50 (30 * p + k0) (-1)) 51 p (r.2 51 p + 1)) = r' at *
  have H : hF n M (z_sfi (z_sar M (n + (3 + 2 * p)) ((jN (z_fi M 394 (n + (2 + 2 * p))) + k0) % 30) (some (n + 10))) 395 (n + (2 + 2 * p)) (r.2 51 p + 1)) := hF_tr hF_sar (hF_sfi (by omega))
  have zn : ∀ {x : Nat}, x ≠ 3 + 2 * p → z_ar (z_sfi (z_sar M (n + (3 + 2 * p)) ((jN (z_fi M 394 (n + (2 + 2 * p))) + k0) % 30) (some (n + 10))) 395 (n + (2 + 2 * p)) (r.2 51 p + 1)) (n + x) = z_ar M (n + x) := fun hx => funext fun j => by
    rw [zq_ar_sfi, zq_ar_sar, if_neg (by omega)]
  have ze : ∀ {j : Nat}, j ≠ (jN (z_fi M 394 (n + (2 + 2 * p))) + k0) % 30 → z_ar (z_sfi (z_sar M (n + (3 + 2 * p)) ((jN (z_fi M 394 (n + (2 + 2 * p))) + k0) % 30) (some (n + 10))) 395 (n + (2 + 2 * p)) (r.2 51 p + 1)) (n + (3 + 2 * p)) j = z_ar M (n + (3 + 2 * p)) j := fun hx => by
    rw [zq_ar_sfi, zq_ar_sar, if_pos rfl, if_neg hx]
  have zz : z_ar (z_sfi (z_sar M (n + (3 + 2 * p)) ((jN (z_fi M 394 (n + (2 + 2 * p))) + k0) % 30) (some (n + 10))) 395 (n + (2 + 2 * p)) (r.2 51 p + 1)) (n + (3 + 2 * p)) ((jN (z_fi M 394 (n + (2 + 2 * p))) + k0) % 30) = some (n + 10) := by
    rw [zq_ar_sfi, zq_ar_sar, if_pos rfl, if_pos rfl]
  have fi : ∀ {g a : Nat}, g ≠ 395 → z_fi (z_sfi (z_sar M (n + (3 + 2 * p)) ((jN (z_fi M 394 (n + (2 + 2 * p))) + k0) % 30) (some (n + 10))) 395 (n + (2 + 2 * p)) (r.2 51 p + 1)) g a = z_fi M g a := fun h => by
    rw [zq_fi_sfi, if_neg h]; rfl
  have S2 : y_S n (z_sfi (z_sar M (n + (3 + 2 * p)) ((jN (z_fi M 394 (n + (2 + 2 * p))) + k0) % 30) (some (n + 10))) 395 (n + (2 + 2 * p)) (r.2 51 p + 1)) := S_sfi (S_sar (by omega) S)
  have ja2 : ∀ a j, z_ai (z_sfi (z_sar M (n + (3 + 2 * p)) ((jN (z_fi M 394 (n + (2 + 2 * p))) + k0) % 30) (some (n + 10))) 395 (n + (2 + 2 * p)) (r.2 51 p + 1)) a j = z_ai M a j := fun _ _ => rfl
  generalize (z_sfi (z_sar M (n + (3 + 2 * p)) ((jN (z_fi M 394 (n + (2 + 2 * p))) + k0) % 30) (some (n + 10))) 395 (n + (2 + 2 * p)) (r.2 51 p + 1)) = M' at *
  have e38 : z_ar M' (n + 38) = z_ar M (n + 38) := zn (by omega)
  have e6 : r'.1 1606 = r.1 1606 := w1
  have le : ∀ g, jN (r.1 g) ≤ jN (r'.1 g) := fun g => by rw [w1]; exact Nat.le_refl _
  have h5 : ∀ {x k : Nat}, x ≠ 51 → x ≠ 50 → r'.2 x k = r.2 x k := fun a b => by rw [w5 a b]
  refine ⟨S2, js1, ja.congr (fun _ _ _ _ => ja2 _ _) (fun t ht => w5 (by revert ht; revert t; decide) (by revert ht; revert t; decide)), X.congr (fun q hq => fi (by revert hq; revert q; decide)) (fun g hg => w1) (fun x hx => w5 (by revert hx; revert x; decide) (by revert hx; revert x; decide)), P.congr H e38 e6 (fun t ht => w5 (by revert ht; revert t; decide) (by revert ht; revert t; decide)), fun p1 hp1 => ?_, T.congr H.m e38 (zn (by omega)) (fi (by decide)) e6 (le _) (le _) (fun x k hx _ => h5 (by revert hx; revert x; decide) (by revert hx; revert x; decide)) (fun x k hx _ => h5 (by revert hx; revert x; decide) (by revert hx; revert x; decide)), C.congr H.m (zn (by omega)) (fi (by decide)) (le _) (by rw [w1, w5 (by decide) (by decide)]; exact C.2.2.2.1) (le _) (fun _ _ _ _ => h5 (by decide) (by decide)) (fun x k hx _ => h5 (by revert hx; revert x; decide) (by revert hx; revert x; decide))⟩
  have Qp1 := Q p1 hp1
  by_cases hpp : p1 = p
  · subst hpp
    obtain ⟨h1, h2, h3, h4'⟩ := Qp1
    have hd := jN_toInt h1
    have l51 : jN (r'.2 51 p1) = k0 + 1 := by rw [x51, jN_add1 Q0 (by omega), hQ]
    refine ⟨by rw [fi (by decide)]; exact h1, by rw [fi (by decide)]; exact h2, fun k hkk => ?_, fun k1 k2 m1 m2 a b c d => ?_⟩
    · rw [l51] at hkk
      rw [fi (by decide)]
      by_cases hk0 : k = k0
      · subst hk0
        exact ⟨n + 10, zz, Or.inl ⟨x50, rfl⟩⟩
      · obtain ⟨m', e', h'⟩ := h3 k (by omega)
        refine ⟨m', by rw [ze (by omega)]; exact e', ?_⟩
        rw [w50 (by omega)]
        rcases h' with h' | ⟨th', g1, g2, g3, g4, g5, g6⟩
        · exact Or.inl h'
        · exact Or.inr ⟨th', g1, by rw [w1]; exact g2, g3, by rw [h5 (by decide) (by decide)]; exact g4, g5.congr H.m e38 e6 (h5 (by decide) (by decide)) (h5 (by decide) (by decide)) (h5 (by decide) (by decide)), by rw [fi (by decide)]; exact g6⟩
    · rw [l51] at b
      rw [fi (by decide)] at c d
      rw [ze (by omega)] at c
      by_cases hk0 : k2 = k0
      · subst hk0
        rw [zz] at d
        cases d
        intro _ hn
        exact absurd hn (by omega)
      · rw [ze (by omega)] at d
        exact h4' k1 k2 m1 m2 a (by omega) c d
  · refine Qp1.congr H.m e38 (zn (by omega)) (fi (by decide)) e6 (w51 hpp) (fun k hk => w50 ?_) (le _) (fun x k hx _ => h5 (by revert hx; revert x; decide) (by revert hx; revert x; decide))
    have q1 := B p1
    have q2 := jN_toInt q1.1
    omega
/-- a foreign thing, both sides -/
theorem x_for1 (h : jX n c M r) {p : Nat} (hp : p < 2) (hl : (r.2 51 p).toInt < 30) : jX n c (cF_X3_append (n + (2 + 2 * p)) (some (n + 10)) M) (ua (ua r 50 (30 * p + jN (r.2 51 p)) (-1)) 51 p (r.2 51 p + 1)) := by
  have B := h.2.2.1.2.2.2.2.2.1.2.2.2.1
  have L := j_lane h.1 hp
  obtain ⟨h1, h2, -, -⟩ := h.1.2.2.2.2.2.1 p hp
  have Q0 := B p
  have eQ := jN_toInt Q0.1
  have e9 := L.2.2.2.2.2.2.2.2.1
  have J1 : JJ n (cF_X3_append (n + (2 + 2 * p)) (some (n + 10)) M) (ua (ua r 50 (30 * p + jN (r.2 51 p)) (-1)) 51 p (r.2 51 p + 1)) (pS ((r.1 1536).toInt + 1) r) (pC ((r.1 1536).toInt + 1) r) := by
    rw [cE_X3_append, e9, if_neg (fun h => absurd (i_le h (show (30 : Int32).toInt = 30 from rfl) rfl) (by omega)), j_lfr h.1.1 hp]
    refine JJ.st (fun b hb1 => ?_)
    have hb1 : b = n + (3 + 2 * p) := hb1
    subst hb1
    refine JJ.st (fun M8 e8 => JJ.st (fun M10 e10 => ?_))
    refine h.1.foreign B hp hl (M1 := M8) ?_ ?_
    · rw [e8]
      have := j_ring h1 h2 Q0.1 Q0.2
      rw [show ((z_fi M 394 (n + (2 + 2 * p)) + r.2 51 p - (z_fi M 394 (n + (2 + 2 * p)) + r.2 51 p) / 30 * 30 : Int32)).toNatClampNeg = _ from this]
    · rw [e10, e8]
      show z_sfi _ 395 _ (z_fi M 395 (n + (2 + 2 * p)) + 1) = _
      rw [e9]
  have F : q_fr [] [50, 51] r (ua (ua r 50 (30 * p + jN (r.2 51 p)) (-1)) 51 p (r.2 51 p + 1)) := q_frua (by decide) (q_frua (by decide) q_fr0)
  have v50 : ∀ j, (ua (ua r 50 (30 * p + jN (r.2 51 p)) (-1)) 51 p (r.2 51 p + 1)).2 50 j = if j = 30 * p + jN (r.2 51 p) then -1 else r.2 50 j := fun j => by rw [ua_n (by decide), ua2, if_pos rfl]
  have v51 : ∀ j, (ua (ua r 50 (30 * p + jN (r.2 51 p)) (-1)) 51 p (r.2 51 p + 1)).2 51 j = if j = p then r.2 51 p + 1 else r.2 51 j := fun j => by rw [ua2, if_pos rfl, ua_n (by decide)]
  generalize ua (ua r 50 (30 * p + jN (r.2 51 p)) (-1)) 51 p (r.2 51 p + 1) = R at J1 F v50 v51 ⊢
  refine jX_up h J1 (F.1 _ (by decide)) (F.1 _ (by decide)) (F.1 _ (by decide)) (F.2 _ (by decide)) (F.2 _ (by decide)) (kP_fr F (by decide) (by decide) h.2.1) ?_ (nA_fr F (by decide) h.2.2.2)
  obtain ⟨q1, ⟨g1, g2, g3, g4⟩, d1, s1, c1, ⟨⟨y1, y2, y3, y4, y5⟩, y6⟩⟩ := h.2.2.1
  have e1 : (r.2 51 p + 1).toInt = (r.2 51 p).toInt + 1 := i_addE rfl (show (1 : Int32).toInt = 1 from rfl) (by omega) (by omega)
  have l51 : jN (r.2 51 p + 1) = jN (r.2 51 p) + 1 := jN_add1 Q0.1 (by omega)
  have hQ51 : ∀ p', p' < 2 → ∀ k, k < jN (R.2 51 p') → R.2 50 (30 * p' + k) = -1 ∨ (k < jN (r.2 51 p') ∧ R.2 50 (30 * p' + k) = r.2 50 (30 * p' + k)) := fun p' hp' k hk => by
    have b := B p'
    have nb := jN_toInt b.1
    rw [v51] at hk
    rw [v50]
    by_cases e : p' = p
    · subst e
      rw [if_pos rfl, l51] at hk
      by_cases e2 : k = jN (r.2 51 p')
      · rw [e2, if_pos rfl]; exact Or.inl rfl
      · rw [if_neg (by omega)]; exact Or.inr ⟨by omega, rfl⟩
    · rw [if_neg e] at hk
      rw [if_neg (by omega)]; exact Or.inr ⟨hk, rfl⟩
  refine ⟨fun p' k hp' hk => ?_, ⟨fun k th hk e50 hth hth2 e52 => ?_, ?_, ?_, ?_⟩, nD_c (fun g hg => F.1 g List.not_mem_nil) (fun x hx => F.2 x (by revert hx; revert x; decide)) d1, nS_c (fun g hg => F.1 g List.not_mem_nil) (fun x hx => F.2 x (by revert hx; revert x; decide)) (fun hc => by rw [F.2 91 (by decide)]; exact s1.2.2.2.2.1 hc) s1, nC_c (fun g hg => F.1 g List.not_mem_nil) (F.2 56 (by decide)) c1, ⟨⟨by rw [F.2 41 (by decide)]; exact y1, by rw [F.2 42 (by decide)]; exact y2, by rw [F.2 49 (by decide)]; exact y3, fun j => ?_, by rw [F.1 1536 List.not_mem_nil]; exact y5⟩, by rw [F.1 1584 List.not_mem_nil]; exact y6⟩⟩
  · rcases hQ51 p' hp' k hk with e | ⟨e, e2⟩
    · exact Or.inl e
    · rw [e2, F.1 1551 List.not_mem_nil, F.2 54 (by decide)]; exact q1 p' k hp' e
  · rw [F.1 1551 List.not_mem_nil] at hth
    rw [F.2 52 (by decide)] at e52
    rw [F.1 1536 List.not_mem_nil, F.1 1580 List.not_mem_nil]
    have hq := hQ51 0 (by decide) k hk
    rw [Nat.mul_zero, Nat.zero_add] at hq
    rcases hq with e | ⟨e, e2⟩
    · rw [e] at e50; exact absurd e50.symm (nI_ne_m1 (by omega))
    · rw [e2] at e50; exact g1 k th e e50 hth hth2 e52
  · rw [F.1 1551 List.not_mem_nil, F.2 52 (by decide), F.2 54 (by decide)]; exact g2
  · rw [F.1 1554 List.not_mem_nil, F.2 52 (by decide), F.2 55 (by decide), F.2 56 (by decide), F.1 1580 List.not_mem_nil]; exact g3
  · rw [F.1 1559 List.not_mem_nil, F.2 57 (by decide), F.2 60 (by decide), F.1 1580 List.not_mem_nil]; exact g4
  · rw [v51]
    by_cases e : j = p
    · rw [if_pos e, e1]; omega
    · rw [if_neg e]; exact y4 j
theorem x_for9 {p : Nat} (hp : p < 2) {x2 : Int32} (h2 : x2.toInt ≤ 30) : ∀ m (x4 : Int32) (M : z_Mem) (r : q_R), 0 ≤ x4.toInt → (x2.toInt - x4.toInt).toNat = m → (r.2 43 p).toInt ≤ 30 → jX n c M r → jX n c (cF_X5_putForeign_9 (n + 1) x2 (some (n + (2 + 2 * p))) x4 M).2 (qF_foreign_23 (nI p) x2 x4 r).2 := by
  have pN : (nI p).toNatClampNeg = p := jN_nI (by omega)
  intro m
  induction m with
  | zero =>
    intro x4 M r h0 hm b43 h
    have hC := cE_X5_putForeign_9 (n + 1) x2 (some (n + (2 + 2 * p))) x4 M
    have hB := qE_foreign_23 (nI p) x2 x4 r
    have le : x2 ≤ x4 := by rw [Int32.le_iff_toInt_le]; omega
    rw [if_pos le] at hC hB
    rw [cUr_X5_putForeign_9 hC, qUr_foreign_23 hB]
    exact h
  | succ m ih =>
    intro x4 M r h0 hm b43 h
    have hC := cE_X5_putForeign_9 (n + 1) x2 (some (n + (2 + 2 * p))) x4 M
    have hB := qE_foreign_23 (nI p) x2 x4 r
    have le : ¬ x2 ≤ x4 := by rw [Int32.le_iff_toInt_le]; omega
    rw [if_neg le] at hC hB
    rw [pN] at hB
    have L := j_lane h.1 hp
    have e9 := L.2.2.2.2.2.2.2.2.1
    have e3 := L.2.2.1
    have B := h.2.2.1.2.2.2.2.2.1.2.2.2.1 p
    replace hC := hC.trans (q_ste (b := n + (2 + 2 * p)) rfl)
    have hr : cF_X3_hasRoom (n + (2 + 2 * p)) M = ((if r.2 43 p ≤ r.2 51 p then 0 else 1 : Int32), M) := by
      rw [cE_X3_hasRoom, e3, e9]
      by_cases c1 : r.2 43 p ≤ r.2 51 p
      · rw [if_pos c1, if_pos c1]
      · have c1' := c1
        rw [Int32.le_iff_toInt_le] at c1'
        rw [if_neg c1, if_neg c1, if_neg (by rw [Int32.le_iff_toInt_le, show (30 : Int32).toInt = 30 from rfl]; omega)]
    replace hC := hC.trans (q_ste2 hr)
    by_cases c1 : r.2 43 p ≤ r.2 51 p
    · rw [if_pos c1, if_pos rfl] at hC
      rw [if_pos c1] at hB
      rw [cUr_X5_putForeign_9 hC, qUr_foreign_23 hB]
      exact h
    · rw [if_neg c1, if_neg (by decide), s_644_1 h.1.1] at hC
      rw [if_neg c1] at hB
      rw [Int32.le_iff_toInt_le] at c1
      replace hC := hC.trans (q_ste rfl)
      replace hC := hC.trans (q_ste rfl)
      rw [cUl_X5_putForeign_9 hC]
      have nB := jN_toInt B.1
      have e30 : (30 * nI p + r.2 51 p).toNatClampNeg = 30 * p + jN (r.2 51 p) := jN_of (by
        rw [i_addE (i_mulE (show (30 : Int32).toInt = 30 from rfl) (jI_t (show p < 2147483648 by omega)) (by omega) (by omega)) rfl (by omega) (by omega)]
        omega)
      rw [e30] at hB
      replace hB := hB.trans (q_ste rfl)
      have e51 : (ua r 50 (30 * p + jN (r.2 51 p)) (-1)).2 51 p = r.2 51 p := by rw [ua_n (by decide)]
      rw [e51] at hB
      replace hB := hB.trans (q_ste rfl)
      replace hB := hB.trans (q_ste rfl)
      rw [qUl_foreign_23 hB]
      have e1 : (x4 + 1).toInt = x4.toInt + 1 := i_addE rfl (show (1 : Int32).toInt = 1 from rfl) (by omega) (by omega)
      exact ih (x4 + 1) _ _ (by omega) (by omega) (by rw [ua_n (by decide), ua_n (by decide)]; exact b43) (x_for1 h hp (by omega))
theorem q_G1 (h : 1 ≤ p1.toInt ∧ p1.toInt ≤ 30) : qF_in p1 1 30 r = (1, r) := q_in1 (show (1 : Int32).toInt = 1 from rfl) (show (30 : Int32).toInt = 30 from rfl) h
theorem q_foreign0 (h : ¬ ((0 ≤ p1.toInt ∧ p1.toInt ≤ 1) ∧ (1 ≤ p2.toInt ∧ p2.toInt ≤ 30))) : ∃ v, (qF_foreign p1 p2 r).2 = uf r 1630 v := by
  obtain ⟨x, hx, e⟩ := q_in01 (p1 := p1) (lo := 0) (hi := 1)
  obtain ⟨y, hy, e2⟩ := q_in01 (p1 := p2) (lo := 1) (hi := 30)
  have h0 := q_2in0 (show (1 : Int32).toInt = 1 from rfl) (show (30 : Int32).toInt = 30 from rfl) e e2 h
  obtain ⟨v, hv⟩ := q_go0 (r := r) (a := x) (b := y) (d := 1) (h0.elim Or.inl (fun h => Or.inr (Or.inl h)))
  rw [qE_foreign, q_isP, q_ste2 (e r), q_ste2 (e2 r), q_ste2 hv, if_pos rfl]
  exact ⟨v, rfl⟩
theorem x_foreign (h : jX n c M r) (I : rf_I t s q z r.1 r.2) (hp : 0 ≤ p1.toInt ∧ p1.toInt ≤ 1) (h2 : 1 ≤ p2.toInt ∧ p2.toInt ≤ 30) {y : Int32} (e : cF_X5_putForeign (n + 1) p1 p2 M = (y, M1)) : jX n c M1 (qF_foreign p1 p2 r).2 := by
  obtain ⟨l1, l2⟩ := u_p hp
  have h0 := jX_1630 h (v := 0)
  have b43 := ri_A I (x := 43) (lo := 0) (hi := 30) (by decide) (jN p1)
  rw [qE_foreign, q_isP, q_ste2 (q_P1 hp), q_ste2 (q_G1 h2), q_ste2 (q_go1 (by decide) (by decide) (by decide)), if_neg (by decide)]
  have hC := cE_X5_putForeign (n + 1) p1 p2 M
  have hl := j_laneOf h.1.1 l1
  rw [← l2] at hl
  replace hC := hC.trans (q_ste2 hl)
  have e2 : (cF_X5_putForeign_9 (n + 1) p2 (some (n + (2 + 2 * jN p1))) 0 M).2 = M1 := congrArg Prod.snd (hC.symm.trans e)
  have K := x_for9 (n := n) (c := c) l1 h2.2 _ 0 M (uf r 1630 0) (by decide) rfl b43.2 h0
  rw [e2, ← l2] at K
  exact K
end JM2
