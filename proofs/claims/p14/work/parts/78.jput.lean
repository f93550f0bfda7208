/-! ===== THE LIKENESS: what is put into a queue ===== -/
section JPUT
variable {n : Nat} {M M1 M2 : z_Mem} {r r1 : q_R} {TL CL : List Nat} {t s q z : Nat}
theorem ri_thg (I : rf_I (t + 1) s q z r.1 r.2) : 0 ≤ (r.1 1551).toInt ∧ (r.1 1551).toInt < 1300 := by
  have h := ri_F I (g := 1551) (lo := 0) (hi := 1300) (by decide)
  have c := I.2.2.2.2.2.2.2.2.2.2.2.1
  have p := ri_F I (g := 1606) (lo := 0) (hi := 400) (by decide)
  have a := ri_F I (g := 1580) (lo := 0) (hi := 2000) (by decide)
  split at c <;> exact ⟨h.1, by omega⟩
theorem jl2 {p : Nat} (hp : p < 2) : p = 0 ∨ p = 1 := by omega
theorem j_app (J : JJ n M r TL CL) (I : rf_I (t + 1) s q z r.1 r.2) {p : Nat} (hp : p < 2) {m : Nat} (m0 : n + 108 ≤ m) (m1 : m < z_sz M) {sI i : Int32} (hk : j_kS n M r m sI i) (h5 : z_fi M 513 m = nI p) (h4 : z_fi M 514 m = 0) (hb : j_qb n M r m) (hl : (r.2 51 p).toInt < 30) (e1 : M1 = z_sar M (n + (3 + 2 * p)) ((jN (z_fi M 394 (n + (2 + 2 * p))) + jN (r.2 51 p)) % 30) (some m)) (e2 : M2 = z_sfi M1 395 (n + (2 + 2 * p)) (r.2 51 p + 1)) : JJ n M2 (qF_puts_111 (nI p) sI i r) TL CL := by
  subst e1
  subst e2
  obtain ⟨T0, T1⟩ := ri_thg I
  obtain ⟨Q0, Q1⟩ := ri_A I (x := 51) (lo := 0) (hi := 30) (by decide) p
  have eT := jN_toInt T0
  have eQ := jN_toInt Q0
  have eTn := jI_jN T0
  have ep : jN (nI p) = p := jN_nI (by omega)
  have e30 : jN (30 * nI p + r.2 51 p) = 30 * p + jN (r.2 51 p) := by
    refine jN_of ?_
    rw [i_addE (i_mulE (show (30 : Int32).toInt = 30 from rfl) (jI_t (show p < 2147483648 by omega)) (by omega) (by omega)) rfl (by omega) (by omega)]
    omega
  rw [qC_puts_111, ep, e30]
  obtain ⟨S, js, ja, X, P, Q, T, C⟩ := J
  generalize hT : jN (r.1 1551) = th at *
  generalize hQ : jN (r.2 51 p) = k0 at *
  have w5 : ∀ {x : Nat}, x ≠ 51 → x ≠ 50 → x ≠ 54 → x ≠ 53 → x ≠ 52 → (uf (ua (ua (ua (ua (ua r 52 th sI) 53 th i) 54 th (nI p)) 50 (30 * p + k0) (r.1 1551)) 51 p (r.2 51 p + 1)) 1551 (r.1 1551 + 1)).2 x = r.2 x := fun a b c d e => by
    rw [uf2, ua_n a, ua_n b, ua_n c, ua_n d, ua_n e]
  have w52 : ∀ {j : Nat}, j ≠ th → (uf (ua (ua (ua (ua (ua r 52 th sI) 53 th i) 54 th (nI p)) 50 (30 * p + k0) (r.1 1551)) 51 p (r.2 51 p + 1)) 1551 (r.1 1551 + 1)).2 52 j = r.2 52 j := fun h => by
    rw [uf2, ua_n (by decide), ua_n (by decide), ua_n (by decide), ua_n (by decide), ua_i h]
  have w53 : ∀ {j : Nat}, j ≠ th → (uf (ua (ua (ua (ua (ua r 52 th sI) 53 th i) 54 th (nI p)) 50 (30 * p + k0) (r.1 1551)) 51 p (r.2 51 p + 1)) 1551 (r.1 1551 + 1)).2 53 j = r.2 53 j := fun h => by
    rw [uf2, ua_n (by decide), ua_n (by decide), ua_n (by decide), ua_i h, ua_n (by decide)]
  have w54 : ∀ {j : Nat}, j ≠ th → (uf (ua (ua (ua (ua (ua r 52 th sI) 53 th i) 54 th (nI p)) 50 (30 * p + k0) (r.1 1551)) 51 p (r.2 51 p + 1)) 1551 (r.1 1551 + 1)).2 54 j = r.2 54 j := fun h => by
    rw [uf2, ua_n (by decide), ua_n (by decide), ua_i h, ua_n (by decide), ua_n (by decide)]
  have w50 : ∀ {j : Nat}, j ≠ 30 * p + k0 → (uf (ua (ua (ua (ua (ua r 52 th sI) 53 th i) 54 th (nI p)) 50 (30 * p + k0) (r.1 1551)) 51 p (r.2 51 p + 1)) 1551 (r.1 1551 + 1)).2 50 j = r.2 50 j := fun h => by
    rw [uf2, ua_n (by decide), ua_i h, ua_n (by decide), ua_n (by decide), ua_n (by decide)]
  have w51 : ∀ {j : Nat}, j ≠ p → (uf (ua (ua (ua (ua (ua r 52 th sI) 53 th i) 54 th (nI p)) 50 (30 * p + k0) (r.1 1551)) 51 p (r.2 51 p + 1)) 1551 (r.1 1551 + 1)).2 51 j = r.2 51 j := fun h => by
    rw [uf2, ua_i h, ua_n (by decide), ua_n (by decide), ua_n (by decide), ua_n (by decide)]
  have x52 : (uf (ua (ua (ua (ua (ua r 52 th sI) 53 th i) 54 th (nI p)) 50 (30 * p + k0) (r.1 1551)) 51 p (r.2 51 p + 1)) 1551 (r.1 1551 + 1)).2 52 th = sI := by
    rw [uf2, ua_n (by decide), ua_n (by decide), ua_n (by decide), ua_n (by decide), ua_e]
  have x53 : (uf (ua (ua (ua (ua (ua r 52 th sI) 53 th i) 54 th (nI p)) 50 (30 * p + k0) (r.1 1551)) 51 p (r.2 51 p + 1)) 1551 (r.1 1551 + 1)).2 53 th = i := by
    rw [uf2, ua_n (by decide), ua_n (by decide), ua_n (by decide), ua_e]
  have x54 : (uf (ua (ua (ua (ua (ua r 52 th sI) 53 th i) 54 th (nI p)) 50 (30 * p + k0) (r.1 1551)) 51 p (r.2 51 p + 1)) 1551 (r.1 1551 + 1)).2 54 th = nI p := by
    rw [uf2, ua_n (by decide), ua_n (by decide), ua_e]
  have x50 : (uf (ua (ua (ua (ua (ua r 52 th sI) 53 th i) 54 th (nI p)) 50 (30 * p + k0) (r.1 1551)) 51 p (r.2 51 p + 1)) 1551 (r.1 1551 + 1)).2 50 (30 * p + k0) = r.1 1551 := by
    rw [uf2, ua_n (by decide), ua_e]
  have x51 : (uf (ua (ua (ua (ua (ua r 52 th sI) 53 th i) 54 th (nI p)) 50 (30 * p + k0) (r.1 1551)) 51 p (r.2 51 p + 1)) 1551 (r.1 1551 + 1)).2 51 p = r.2 51 p + 1 := by
    rw [uf2, ua_e]
  have w1 : ∀ {g : Nat}, g ≠ 1551 → (uf (ua (ua (ua (ua (ua r 52 th sI) 53 th i) 54 th (nI p)) 50 (30 * p + k0) (r.1 1551)) 51 p (r.2 51 p + 1)) 1551 (r.1 1551 + 1)).1 g = r.1 g := fun h => by
    rw [uf_n h, ua1, ua1, ua1, ua1, ua1]
  have y1 : (uf (ua (ua (ua (ua (ua r 52 th sI) 53 th i) 54 th (nI p)) 50 (30 * p + k0) (r.1 1551)) 51 p (r.2 51 p + 1)) 1551 (r.1 1551 + 1)).1 1551 = r.1 1551 + 1 := uf_e
  have js1 : JS n (z_sfi (z_sar M (n + (3 + 2 * p)) ((jN (z_fi M 394 (n + (2 + 2 * p))) + k0) % 30) (some m)) 395 (n + (2 + 2 * p)) (r.2 51 p + 1)) (uf (ua (ua (ua (ua (ua r 52 th sI) 53 th i) 54 th (nI p)) 50 (30 * p + k0) (r.1 1551)) 51 p (r.2 51 p + 1)) 1551 (r.1 1551 + 1)) := by
    refine JS.rf ?_ (by decide)
    have j4 : JS n (z_sar M (n + (3 + 2 * p)) ((jN (z_fi M 394 (n + (2 + 2 * p))) + k0) % 30) (some m)) (ua (ua (ua (ua r 52 th sI) 53 th i) 54 th (nI p)) 50 (30 * p + k0) (r.1 1551)) := JS.ra (JS.ra (JS.ra (JS.ra (js.congr (fun _ _ => rfl) (fun _ _ => rfl)) (by decide)) (by decide)) (by decide)) (by decide)
    rcases jl2 hp with rfl | rfl
    · exact j4.sa (by decide)
    · exact j4.sa (by decide)
  generalize (uf (ua (ua (ua (ua (ua r 52 th sI) 53 th i) 54 th (nI p)) 50 (30 * p + k0) (r.1 1551)) 51 p (r.2 51 p + 1)) 1551 (r.1 1551 + 1)) = r' at *
  have H : hF n M (z_sfi (z_sar M (n + (3 + 2 * p)) ((jN (z_fi M 394 (n + (2 + 2 * p))) + k0) % 30) (some m)) 395 (n + (2 + 2 * p)) (r.2 51 p + 1)) := hF_tr hF_sar (hF_sfi (by omega))
  have zn : ∀ {x : Nat}, x ≠ 3 + 2 * p → z_ar (z_sfi (z_sar M (n + (3 + 2 * p)) ((jN (z_fi M 394 (n + (2 + 2 * p))) + k0) % 30) (some m)) 395 (n + (2 + 2 * p)) (r.2 51 p + 1)) (n + x) = z_ar M (n + x) := fun hx => funext fun j => by
    rw [zq_ar_sfi, zq_ar_sar, if_neg (by omega)]
  have ze : ∀ {j : Nat}, j ≠ (jN (z_fi M 394 (n + (2 + 2 * p))) + k0) % 30 → z_ar (z_sfi (z_sar M (n + (3 + 2 * p)) ((jN (z_fi M 394 (n + (2 + 2 * p))) + k0) % 30) (some m)) 395 (n + (2 + 2 * p)) (r.2 51 p + 1)) (n + (3 + 2 * p)) j = z_ar M (n + (3 + 2 * p)) j := fun hx => by
    rw [zq_ar_sfi, zq_ar_sar, if_pos rfl, if_neg hx]
  have zz : z_ar (z_sfi (z_sar M (n + (3 + 2 * p)) ((jN (z_fi M 394 (n + (2 + 2 * p))) + k0) % 30) (some m)) 395 (n + (2 + 2 * p)) (r.2 51 p + 1)) (n + (3 + 2 * p)) ((jN (z_fi M 394 (n + (2 + 2 * p))) + k0) % 30) = some m := by
    rw [zq_ar_sfi, zq_ar_sar, if_pos rfl, if_pos rfl]
  have fi : ∀ {g a : Nat}, g ≠ 395 → z_fi (z_sfi (z_sar M (n + (3 + 2 * p)) ((jN (z_fi M 394 (n + (2 + 2 * p))) + k0) % 30) (some m)) 395 (n + (2 + 2 * p)) (r.2 51 p + 1)) g a = z_fi M g a := fun h => by
    rw [zq_fi_sfi, if_neg h]; rfl
  have S2 : y_S n (z_sfi (z_sar M (n + (3 + 2 * p)) ((jN (z_fi M 394 (n + (2 + 2 * p))) + k0) % 30) (some m)) 395 (n + (2 + 2 * p)) (r.2 51 p + 1)) := S_sfi (S_sar (by omega) S)
  have ja2 : ∀ a j, z_ai (z_sfi (z_sar M (n + (3 + 2 * p)) ((jN (z_fi M 394 (n + (2 + 2 * p))) + k0) % 30) (some m)) 395 (n + (2 + 2 * p)) (r.2 51 p + 1)) a j = z_ai M a j := fun _ _ => rfl
  generalize (z_sfi (z_sar M (n + (3 + 2 * p)) ((jN (z_fi M 394 (n + (2 + 2 * p))) + k0) % 30) (some m)) 395 (n + (2 + 2 * p)) (r.2 51 p + 1)) = M' at *
  have e38 : z_ar M' (n + 38) = z_ar M (n + 38) := zn (by omega)
  have e6 : r'.1 1606 = r.1 1606 := w1 (by decide)
  have t1 : jN (r'.1 1551) = th + 1 := by rw [y1, jN_add1 T0 (by omega), hT]
  have hlow : ∀ x k, x ∈ [52, 53, 54] → k < th → r'.2 x k = r.2 x k := fun x k hx hk => by
    simp only [List.mem_cons, List.not_mem_nil, or_false] at hx
    rcases hx with rfl | rfl | rfl
    · exact w52 (by omega)
    · exact w53 (by omega)
    · exact w54 (by omega)
  refine ⟨S2, js1, ja.congr (fun _ _ _ _ => ja2 _ _) (fun t ht => w5 (by revert ht; revert t; decide) (by revert ht; revert t; decide) (by revert ht; revert t; decide) (by revert ht; revert t; decide) (by revert ht; revert t; decide)), X.congr (fun q hq => fi (by revert hq; revert q; decide)) (fun g hg => w1 (by revert hg; revert g; decide)) (fun x hx => w5 (by revert hx; revert x; decide) (by revert hx; revert x; decide) (by revert hx; revert x; decide) (by revert hx; revert x; decide) (by revert hx; revert x; decide)), P.congr H e38 e6 (fun t ht => w5 (by revert ht; revert t; decide) (by revert ht; revert t; decide) (by revert ht; revert t; decide) (by revert ht; revert t; decide) (by revert ht; revert t; decide)), fun p1 hp1 => ?_, T.congr H.m e38 (zn (by omega)) (fi (by decide)) e6 (by rw [t1, hT]; omega) (by rw [w1 (by decide)]; exact Nat.le_refl _) (fun x k hx hk => hlow x k hx (by rw [← hT]; exact hk)) (fun x k hx _ => by rw [w5 (by revert hx; revert x; decide) (by revert hx; revert x; decide) (by revert hx; revert x; decide) (by revert hx; revert x; decide) (by revert hx; revert x; decide)]), C.congr H.m (zn (by omega)) (fi (by decide)) (by rw [w1 (by decide)]; exact Nat.le_refl _) (by rw [w1 (by decide), w5 (by decide) (by decide) (by decide) (by decide) (by decide)]; exact C.2.2.2.1) (by rw [w1 (by decide)]; exact Nat.le_refl _) (fun _ _ _ _ => by rw [w5 (by decide) (by decide) (by decide) (by decide) (by decide)]) (fun x k hx _ => by rw [w5 (by revert hx; revert x; decide) (by revert hx; revert x; decide) (by revert hx; revert x; decide) (by revert hx; revert x; decide) (by revert hx; revert x; decide)])⟩
  have Qp1 := Q p1 hp1
  by_cases hpp : p1 = p
  · subst hpp
    obtain ⟨h1, h2, h3, h4'⟩ := Qp1
    have hd := jN_toInt h1
    have l51 : jN (r'.2 51 p1) = k0 + 1 := by rw [x51, jN_add1 Q0 (by omega), hQ]
    refine ⟨by rw [fi (by decide)]; exact h1, by rw [fi (by decide)]; exact h2, fun k hkk => ?_, fun k1 k2 m1 m2 a b c d => ?_⟩
    · rw [l51] at hkk
      rw [fi (by decide)]
      by_cases hk0 : k = k0
      · subst hk0
        refine ⟨m, zz, Or.inr ⟨th, by rw [x50, eTn], by omega, by omega, x54, ⟨m0, Nat.lt_of_lt_of_le m1 H.1, by rw [fi (by decide), x54]; exact h5, ?_⟩, by rw [fi (by decide)]; exact h4⟩⟩
        rw [x52, x53]
        exact hk.congr m0 m1 H.m e38 e6
      · obtain ⟨m', e', h'⟩ := h3 k (by omega)
        refine ⟨m', by rw [ze (by omega)]; exact e', ?_⟩
        rw [w50 (by omega)]
        rcases h' with h' | ⟨th', g1, g2, g3, g4, g5, g6⟩
        · exact Or.inl h'
        · rw [hT] at g2
          exact Or.inr ⟨th', g1, by omega, g3, by rw [w54 (by omega)]; exact g4, g5.congr H.m e38 e6 (w52 (by omega)) (w53 (by omega)) (w54 (by omega)), by rw [fi (by decide)]; exact g6⟩
    · rw [l51] at b
      rw [fi (by decide)] at c d
      rw [ze (by omega)] at c
      by_cases hk0 : k2 = k0
      · subst hk0
        rw [zz] at d
        cases d
        intro _ _
        exact hb p1 k1 m1 hp1 (by omega) c
      · rw [ze (by omega)] at d
        exact h4' k1 k2 m1 m2 a (by omega) c d
  · refine Qp1.congr H.m e38 (zn (by omega)) (fi (by decide)) e6 (w51 hpp) (fun k hk => w50 ?_) (by rw [t1, hT]; omega) (fun x k hx hk => hlow x k hx (by rw [← hT]; exact hk))
    have q1 := ri_A I (x := 51) (lo := 0) (hi := 30) (by decide) p1
    have q2 := jN_toInt q1.1
    omega
/-- what a message must be before it is put on a path -/
def j_msg (n : Nat) (M : z_Mem) (r : q_R) (m p : Nat) (sI i : Int32) : Prop := n + 108 ≤ m ∧ m < z_sz M ∧ j_kS n M r m sI i ∧ z_fi M 514 m = 0 ∧ j_qb n M r m
theorem j_laneOf (S : y_S n M) {p : Nat} (hp : p < 2) : cF_X5_laneOf (n + 1) (nI p) M = (some (n + (2 + 2 * p)), M) := by
  rw [cE_X5_laneOf]
  rcases jl2 hp with rfl | rfl
  · rw [if_pos (show nI 0 = 0 from rfl), s_640_1 S]
  · rw [if_neg (show ¬ nI 1 = 0 by decide), s_641_1 S]
theorem j_lfr (S : y_S n M) {p : Nat} (hp : p < 2) : z_fr M 393 (n + (2 + 2 * p)) = some (n + (3 + 2 * p)) := by
  rcases jl2 hp with rfl | rfl
  · exact s_393_2 S
  · exact s_393_4 S
theorem j_lane (J : JJ n M r TL CL) {p : Nat} (hp : p < 2) : z_fi M 384 (n + (2 + 2 * p)) = r.2 41 p ∧ z_fi M 385 (n + (2 + 2 * p)) = r.2 42 p ∧ z_fi M 386 (n + (2 + 2 * p)) = r.2 43 p ∧ z_fi M 387 (n + (2 + 2 * p)) = r.2 44 p ∧ z_fi M 389 (n + (2 + 2 * p)) = r.2 46 p ∧ z_fi M 390 (n + (2 + 2 * p)) = r.2 47 p ∧ z_fi M 391 (n + (2 + 2 * p)) = r.2 48 p ∧ z_fi M 392 (n + (2 + 2 * p)) = r.2 49 p ∧ z_fi M 395 (n + (2 + 2 * p)) = r.2 51 p ∧ (z_fi M 388 (n + (2 + 2 * p)) = 0 ↔ ¬ r.2 45 p = 0) := by
  have X := J.2.2.2.1.1 p hp
  rcases jl2 hp with rfl | rfl
  · exact ⟨js_384_2 J, js_385_2 J, js_386_2 J, js_387_2 J, js_389_2 J, js_390_2 J, js_391_2 J, js_392_2 J, js_395_2 J, X⟩
  · exact ⟨js_384_4 J, js_385_4 J, js_386_4 J, js_387_4 J, js_389_4 J, js_390_4 J, js_391_4 J, js_392_4 J, js_395_4 J, X⟩
theorem j_lsa (J : JJ n M r TL CL) {p : Nat} (hp : p < 2) {g x : Nat} {v : Int32} (h2 : jokT g 2 x 0 = true) (h4 : jokT g 4 x 1 = true) (hx : 41 ≤ x) : JJ n (z_sfi M g (n + (2 + 2 * p)) v) (ua r x p v) TL CL := by
  rcases jl2 hp with rfl | rfl
  · exact J.sa rfl h2 hx
  · exact J.sa rfl h4 hx
end JPUT
