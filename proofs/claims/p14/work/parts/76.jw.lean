/-! ===== THE LIKENESS: reads, and writes that touch one group alone ===== -/
def jXX : List (Nat × Nat) := [(388, 2), (388, 4), (141, 31), (1032, 28), (1155, 12), (1155, 16), (1155, 20), (1155, 24), (1157, 12), (1157, 16), (1157, 20), (1157, 24), (899, 32), (899, 35), (134, 31), (266, 33), (266, 36), (260, 33), (260, 36), (261, 33), (261, 36), (512, 10)]
def jXRF : List Nat := [1577, 1582, 1567, 1568, 1606]
def jXRA : List Nat := [45, 64, 67, 69, 70, 71, 76, 99, 100, 103, 104]
section JW
variable {n : Nat} {M M1 : z_Mem} {r r1 : q_R} {TL CL : List Nat}
theorem JS.at (h : JS n M r) (k : Nat) {g c x j : Nat} (e : jT[k]? = some (g, c, x, j)) : z_fi M g (n + c) = j_loc r x j := h _ (List.mem_of_getElem? e)
theorem JA.at (h : JA n M r) (k : Nat) {a l x o : Nat} (e : jR[k]? = some (a, l, x, o)) {j : Nat} (hj : j < l) : z_ai M (n + a) j = r.2 x (o + j) := h _ (List.mem_of_getElem? e) j hj
theorem JX.congr (h : JX n M r) (hc : ∀ q, q ∈ jXX → z_fi M1 q.1 (n + q.2) = z_fi M q.1 (n + q.2)) (hf : ∀ g, g ∈ jXRF → r1.1 g = r.1 g) (ha : ∀ x, x ∈ jXRA → r1.2 x = r.2 x) : JX n M1 r1 := by
  obtain ⟨h1, h2, h3, h4, h5, h6, h7, h8, h9, h10⟩ := h
  have l2 : ∀ p, p < 2 → p = 0 ∨ p = 1 := fun p hp => by omega
  have l4 : ∀ s, s < 4 → s = 0 ∨ s = 1 ∨ s = 2 ∨ s = 3 := fun p hp => by omega
  refine ⟨fun p hp => ?_, ?_, ?_, fun s hs => ?_, fun s hs => ?_, fun p hp => ?_, ?_, fun p hp => ?_, fun p hp => ?_, (hc (512, 10) (by decide)).trans h10⟩
  · have := h1 p hp
    rw [ha 45 (by decide)]
    rcases l2 p hp with rfl | rfl
    · rw [hc (388, 2) (by decide)]; exact this
    · rw [hc (388, 4) (by decide)]; exact this
  · rw [hf 1577 (by decide), hf 1582 (by decide), hc (141, 31) (by decide)]; exact h2
  · rw [hf 1567 (by decide), hf 1568 (by decide), hc (1032, 28) (by decide)]; exact h3
  · have e : j_lost r1 s = j_lost r s := by unfold j_lost; rw [ha 67 (by decide), ha 69 (by decide), ha 70 (by decide)]
    have := h4 s hs
    rw [e]
    rcases l4 s hs with rfl | rfl | rfl | rfl
    · rw [hc (1155, 12) (by decide)]; exact this
    · rw [hc (1155, 16) (by decide)]; exact this
    · rw [hc (1155, 20) (by decide)]; exact this
    · rw [hc (1155, 24) (by decide)]; exact this
  · have := h5 s hs
    rw [ha 64 (by decide)]
    rcases l4 s hs with rfl | rfl | rfl | rfl
    · rw [hc (1157, 12) (by decide)]; exact this
    · rw [hc (1157, 16) (by decide)]; exact this
    · rw [hc (1157, 20) (by decide)]; exact this
    · rw [hc (1157, 24) (by decide)]; exact this
  · have e : j_fl r1 p = j_fl r p := by unfold j_fl; rw [ha 71 (by decide), ha 76 (by decide)]
    have := h6 p hp
    rw [e, hf 1606 (by decide)]
    rcases l2 p hp with rfl | rfl
    · rw [hc (899, 32) (by decide)]; exact this
    · rw [hc (899, 35) (by decide)]; exact this
  · rw [hc (134, 31) (by decide), hf 1606 (by decide), ha 76 (by decide)]; exact h7
  · have := h8 p hp
    rw [ha 99 (by decide)]
    rcases l2 p hp with rfl | rfl
    · rw [hc (266, 33) (by decide)]; exact this
    · rw [hc (266, 36) (by decide)]; exact this
  · have := h9 p hp
    rw [ha 100 (by decide), ha 103 (by decide), ha 104 (by decide)]
    rcases l2 p hp with rfl | rfl
    · rw [hc (260, 33) (by decide), hc (261, 33) (by decide)]; exact this
    · rw [hc (260, 36) (by decide), hc (261, 36) (by decide)]; exact this
theorem JJ.congr (J : JJ n M r TL CL) (S : y_S n M1) (js : JS n M1 r1) (ja : JA n M1 r1) (H : hF n M M1) (hz : ∀ x, x ∈ [38, 3, 5, 7, 9] → z_ar M1 (n + x) = z_ar M (n + x)) (hc : ∀ q, q ∈ jXF → z_fi M1 q.1 (n + q.2) = z_fi M q.1 (n + q.2)) (hf : ∀ g, g ∈ jRF → r1.1 g = r.1 g) (ha : ∀ x, x ∈ jRA → r1.2 x = r.2 x) : JJ n M1 r1 TL CL := by
  obtain ⟨-, -, -, X, P, Q, T, C⟩ := J
  have e38 := hz 38 (by decide)
  have e6 := hf 1606 (by decide)
  refine ⟨S, js, ja, X.congr (fun q hq => hc q (by revert hq; revert q; decide)) (fun g hg => hf g (by revert hg; revert g; decide)) (fun x hx => ha x (by revert hx; revert x; decide)), P.congr H e38 e6 (fun t ht => ha _ (by revert ht; revert t; decide)), fun p hp => ?_, T.congr H.m e38 (hz 7 (by decide)) (hc (1281, 6) (by decide)) e6 (by rw [hf 1551 (by decide)]; exact Nat.le_refl _) (by rw [hf 1554 (by decide)]; exact Nat.le_refl _) (fun x _ hx _ => by rw [ha x (by revert hx; revert x; decide)]) (fun x _ hx _ => by rw [ha x (by revert hx; revert x; decide)]), ?_⟩
  · have : p = 0 ∨ p = 1 := by omega
    refine (Q p hp).congr H.m e38 ?_ ?_ e6 (by rw [ha 51 (by decide)]) (fun _ _ => by rw [ha 50 (by decide)]) (by rw [hf 1551 (by decide)]; exact Nat.le_refl _) (fun x _ hx _ => by rw [ha x (by revert hx; revert x; decide)])
    · rcases this with rfl | rfl
      · exact hz 3 (by decide)
      · exact hz 5 (by decide)
    · rcases this with rfl | rfl
      · exact hc (394, 2) (by decide)
      · exact hc (394, 4) (by decide)
  · have e61 := ha 61 (by decide)
    have et := hf 1561 (by decide)
    refine C.congr H.m (hz 9 (by decide)) (hc (1281, 8) (by decide)) (by rw [hf 1559 (by decide)]; exact Nat.le_refl _) (by rw [et, e61]; exact C.2.2.2.1) (by rw [et]; exact Nat.le_refl _) (fun t i _ _ => by rw [e61]) (fun x k hx _ => by rw [ha x (by revert hx; revert x; decide)])
/-- what JS does not see -/
theorem JS.congr (J : JS n M r) (hc : ∀ t, t ∈ jT → z_fi M1 t.1 (n + t.2.1) = z_fi M t.1 (n + t.2.1)) (hr : ∀ t, t ∈ jT → j_loc r1 t.2.2.1 t.2.2.2 = j_loc r t.2.2.1 t.2.2.2) : JS n M1 r1 := fun t ht => by rw [hc t ht, hr t ht]; exact J t ht
theorem JA.congr (J : JA n M r) (hc : ∀ t, t ∈ jR → ∀ j, j < t.2.1 → z_ai M1 (n + t.1) j = z_ai M (n + t.1) j) (hr : ∀ t, t ∈ jR → r1.2 t.2.2.1 = r.2 t.2.2.1) : JA n M1 r1 := fun t ht j hj => by rw [hc t ht j hj, hr t ht]; exact J t ht j hj
theorem JJ.ext (J : JJ n M r TL CL) (E : jE n M M1) : JJ n M1 r TL CL := by
  obtain ⟨h1, h2, h3, h4, h5⟩ := E
  have hR : ∀ t, t ∈ jR → t.1 < 108 := by decide
  refine J.congr h2 (J.2.1.congr (fun t ht => h3 _ _ ?_) (fun _ _ => rfl)) (J.2.2.1.congr (fun t ht j _ => h4 _ _ ?_) (fun _ _ => rfl)) h1 (fun x hx => h5 _ ?_) (fun q hq => h3 _ _ ?_) (fun _ _ => rfl) (fun _ _ => rfl)
  · have : t.2.1 < 108 := by revert ht; revert t; decide
    omega
  · have := hR t ht
    omega
  · have : x < 108 := by revert hx; revert x; decide
    omega
  · have : q.2 < 108 := by revert hq; revert q; decide
    omega
def jokC (g c : Nat) : Bool := decide (c < 108) && (jT.all (fun t => !(t.1 == g && t.2.1 == c)) && jXF.all (fun q => !(q.1 == g && q.2 == c)))
def jokT (g c x j : Nat) : Bool := decide (c < 108) && (jXF.all (fun q => !(q.1 == g && q.2 == c)) && (jT.all (fun t => t == (g, c, x, j) || (!(t.1 == g && t.2.1 == c) && !(t.2.2.1 == x && t.2.2.2 == j))) && ((x == 0 && (jRF.all (fun k => !(k == j)) && jQl.all (fun k => !(k == j)))) || (decide (41 ≤ x) && (jRA.all (fun k => !(k == x)) && jR.all (fun t => !(t.2.2.1 == x)))))))
def jokR (x : Nat) : Bool := decide (41 ≤ x) && (jRA.all (fun k => !(k == x)) && (jT.all (fun t => !(t.2.2.1 == x)) && jR.all (fun t => !(t.2.2.1 == x))))
def jokF (g : Nat) : Bool := jRF.all (fun k => !(k == g)) && (jQl.all (fun k => !(k == g)) && jT.all (fun t => !(t.2.2.1 == 0 && t.2.2.2 == g)))
def jokS (g c x j : Nat) : Bool := decide (c < 108) && (decide (41 ≤ x) && jT.all (fun t => t == (g, c, x, j) || (!(t.1 == g && t.2.1 == c) && !(t.2.2.1 == x && t.2.2.2 == j))))
def jokSF (g c j : Nat) : Bool := decide (c < 108) && (jQl.all (fun k => !(k == j)) && jT.all (fun t => t == (g, c, 0, j) || (!(t.1 == g && t.2.1 == c) && !(t.2.2.1 == 0 && t.2.2.2 == j))))
theorem jne {g c x y : Nat} (h : (!(g == x && c == y)) = true) : ¬ (g = x ∧ c = y) := fun ⟨h1, h2⟩ => by subst h1; subst h2; simp at h
theorem jfi {g c x y : Nat} {v : Int32} (h : ¬ (x = g ∧ y = c)) : z_fi (z_sfi M g (n + c) v) x (n + y) = z_fi M x (n + y) := by
  rw [zq_fi_sfi]
  by_cases h1 : x = g
  · rw [if_pos h1, if_neg (fun e => h ⟨h1, by omega⟩)]
  · rw [if_neg h1]
theorem JS.sa (J : JS n M r) {g c x j : Nat} {v : Int32} (h : jokS g c x j = true) : JS n (z_sfi M g (n + c) v) (ua r x j v) := by
  unfold jokS at h
  simp only [Bool.and_eq_true, Bool.or_eq_true, decide_eq_true_eq, List.all_eq_true] at h
  obtain ⟨hc, hx0, h2⟩ := h
  intro t ht
  rcases h2 t ht with h2 | ⟨h2, h4⟩
  · have := eq_of_beq h2
    subst this
    show z_fi (z_sfi M g (n + c) v) g (n + c) = j_loc (ua r x j v) x j
    unfold j_loc ua
    rw [zq_fi_sfi, if_pos rfl, if_pos rfl, if_neg (by omega)]
    show v = (if x = x then (if j = j then v else r.2 x j) else r.2 x j)
    rw [if_pos rfl, if_pos rfl]
  · rw [jfi (jne h2), J t ht]
    unfold j_loc
    by_cases hx : t.2.2.1 = 0
    · rw [if_pos hx, if_pos hx]; rfl
    · rw [if_neg hx, if_neg hx]
      show r.2 t.2.2.1 t.2.2.2 = (if t.2.2.1 = x then (if t.2.2.2 = j then v else r.2 t.2.2.1 t.2.2.2) else r.2 t.2.2.1 t.2.2.2)
      by_cases hy : t.2.2.1 = x
      · rw [if_pos hy, if_neg (fun e => jne h4 ⟨hy, e⟩)]
      · rw [if_neg hy]
theorem JS.sf (J : JS n M r) {g c j : Nat} {v : Int32} (h : jokSF g c j = true) : JS n (z_sfi M g (n + c) v) (uf r j v) := by
  unfold jokSF at h
  simp only [Bool.and_eq_true, Bool.or_eq_true, decide_eq_true_eq, List.all_eq_true] at h
  obtain ⟨hc, hq, h2⟩ := h
  have hq : ∀ k, k ∈ jQl → k ≠ j := fun k hk e => by have := hq k hk; rw [e] at this; simp at this
  intro t ht
  rcases h2 t ht with h2 | ⟨h2, h4⟩
  · have := eq_of_beq h2
    subst this
    show z_fi (z_sfi M g (n + c) v) g (n + c) = j_fv (uf r j v) j
    rw [j_fvn (Ne.symm (hq 1764 (by decide))) (Ne.symm (hq 1781 (by decide)))]
    show z_fi (z_sfi M g (n + c) v) g (n + c) = (if j = j then v else r.1 j)
    rw [zq_fi_sfi, if_pos rfl, if_pos rfl, if_pos rfl]
  · rw [jfi (jne h2), J t ht]
    unfold j_loc
    by_cases hx : t.2.2.1 = 0
    · rw [if_pos hx, if_pos hx]
      exact (j_fvu hq (fun e => jne h4 ⟨hx, e⟩)).symm
    · rw [if_neg hx, if_neg hx]; rfl
theorem JS.ra (J : JS n M r) {x j : Nat} {v : Int32} (h : (decide (41 ≤ x) && jT.all (fun t => !(t.2.2.1 == x))) = true) : JS n M (ua r x j v) := by
  simp only [Bool.and_eq_true, decide_eq_true_eq, List.all_eq_true] at h
  refine J.congr (fun _ _ => rfl) (fun t ht => ?_)
  have := h.2 t ht
  unfold j_loc
  by_cases hx : t.2.2.1 = 0
  · rw [if_pos hx, if_pos hx]; rfl
  · rw [if_neg hx, if_neg hx]; exact if_neg (fun e => by rw [e] at this; simp at this)
theorem JS.rf (J : JS n M r) {g : Nat} {v : Int32} (h : (jQl.all (fun k => !(k == g)) && jT.all (fun t => !(t.2.2.1 == 0 && t.2.2.2 == g))) = true) : JS n M (uf r g v) := by
  simp only [Bool.and_eq_true, List.all_eq_true] at h
  obtain ⟨hq, h⟩ := h
  have hq : ∀ k, k ∈ jQl → k ≠ g := fun k hk e => by have := hq k hk; rw [e] at this; simp at this
  refine J.congr (fun _ _ => rfl) (fun t ht => ?_)
  have := h t ht
  unfold j_loc
  by_cases hx : t.2.2.1 = 0
  · rw [if_pos hx, if_pos hx]; exact j_fvu hq (fun e => jne (h t ht) ⟨hx, e⟩)
  · rw [if_neg hx, if_neg hx]; rfl
theorem JS.fc (J : JS n M r) {g c : Nat} {v : Int32} (h : jT.all (fun t => !(t.1 == g && t.2.1 == c)) = true) : JS n (z_sfi M g (n + c) v) r := by
  simp only [List.all_eq_true] at h
  exact J.congr (fun t ht => jfi (jne (h t ht))) (fun _ _ => rfl)
/-- a field of the class that is in no group -/
theorem JJ.fc (J : JJ n M r TL CL) {g c : Nat} {v : Int32} (e : M1 = z_sfi M g (n + c) v) (h : jokC g c = true) : JJ n M1 r TL CL := by
  subst e
  unfold jokC at h
  rw [Bool.and_eq_true, Bool.and_eq_true, decide_eq_true_eq, List.all_eq_true, List.all_eq_true] at h
  obtain ⟨hc, h1, h2⟩ := h
  exact J.congr (S_sfi J.1) (fun t ht => by rw [jfi (jne (h1 t ht))]; exact J.2.1 t ht) J.2.2.1 (hF_sfi hc) (fun _ _ => rfl) (fun q hq => jfi (jne (h2 q hq))) (fun _ _ => rfl) (fun _ _ => rfl)
/-- a cell of both -/
theorem JJ.sf (J : JJ n M r TL CL) {g c j : Nat} {v : Int32} (e : M1 = z_sfi M g (n + c) v) (h : jokT g c 0 j = true) : JJ n M1 (uf r j v) TL CL := by
  subst e
  unfold jokT at h
  simp only [Bool.and_eq_true, Bool.or_eq_true, decide_eq_true_eq, List.all_eq_true] at h
  obtain ⟨hc, h1, h2, h3⟩ := h
  have hq : ∀ k, k ∈ jQl → k ≠ j := fun k hk e => by
    rcases h3 with h3 | h3
    · have := h3.2.2 k hk; rw [e] at this; simp at this
    · exact absurd h3.1 (by decide)
  have h3 : ∀ k, k ∈ jRF → k ≠ j := fun k hk e => by
    rcases h3 with h3 | h3
    · have := h3.2.1 k hk; rw [e] at this; simp at this
    · exact absurd h3.1 (by decide)
  refine J.congr (S_sfi J.1) (fun t ht => ?_) (fun t ht i hi => J.2.2.1 t ht i hi) (hF_sfi hc) (fun _ _ => rfl) (fun q hq => jfi (jne (by rw [h1 q hq]))) (fun k hk => if_neg (h3 k hk)) (fun _ _ => rfl)
  rcases h2 t ht with h2 | ⟨h2, h4⟩
  · have := eq_of_beq h2
    subst this
    show z_fi (z_sfi M g (n + c) v) g (n + c) = j_fv (uf r j v) j
    rw [j_fvn (Ne.symm (hq 1764 (by decide))) (Ne.symm (hq 1781 (by decide)))]
    show z_fi (z_sfi M g (n + c) v) g (n + c) = (if j = j then v else r.1 j)
    rw [zq_fi_sfi, if_pos rfl, if_pos rfl, if_pos rfl]
  · rw [jfi (jne h2), J.2.1 t ht]
    unfold j_loc
    by_cases hx : t.2.2.1 = 0
    · rw [if_pos hx, if_pos hx]
      exact (j_fvu hq (fun e => jne h4 ⟨hx, e⟩)).symm
    · rw [if_neg hx, if_neg hx]; rfl
theorem JJ.sa (J : JJ n M r TL CL) {g c x j : Nat} {v : Int32} (e : M1 = z_sfi M g (n + c) v) (h : jokT g c x j = true) (hx0 : 41 ≤ x) : JJ n M1 (ua r x j v) TL CL := by
  subst e
  unfold jokT at h
  simp only [Bool.and_eq_true, Bool.or_eq_true, decide_eq_true_eq, List.all_eq_true] at h
  obtain ⟨hc, h1, h2, h3⟩ := h
  have h3 : (∀ k, k ∈ jRA → k ≠ x) ∧ (∀ t, t ∈ jR → t.2.2.1 ≠ x) := by
    rcases h3 with h3 | ⟨-, h3, h4⟩
    · have := eq_of_beq h3.1; omega
    · exact ⟨fun k hk e => by have := h3 k hk; rw [e] at this; simp at this, fun k hk e => by have := h4 k hk; rw [e] at this; simp at this⟩
  have hu : ∀ y, y ≠ x → (ua r x j v).2 y = r.2 y := fun y hy => funext (fun i => if_neg hy)
  refine J.congr (S_sfi J.1) (fun t ht => ?_) (fun t ht i hi => by rw [hu _ (h3.2 t ht)]; exact J.2.2.1 t ht i hi) (hF_sfi hc) (fun _ _ => rfl) (fun q hq => jfi (jne (by rw [h1 q hq]))) (fun _ _ => rfl) (fun k hk => hu k (h3.1 k hk))
  rcases h2 t ht with h2 | ⟨h2, h4⟩
  · have := eq_of_beq h2
    subst this
    show z_fi (z_sfi M g (n + c) v) g (n + c) = j_loc (ua r x j v) x j
    unfold j_loc ua
    rw [zq_fi_sfi, if_pos rfl, if_pos rfl, if_neg (by omega)]
    show v = (if x = x then (if j = j then v else r.2 x j) else r.2 x j)
    rw [if_pos rfl, if_pos rfl]
  · rw [jfi (jne h2), J.2.1 t ht]
    unfold j_loc
    by_cases hx : t.2.2.1 = 0
    · rw [if_pos hx, if_pos hx]; rfl
    · rw [if_neg hx, if_neg hx]
      show r.2 t.2.2.1 t.2.2.2 = (if t.2.2.1 = x then (if t.2.2.2 = j then v else r.2 t.2.2.1 t.2.2.2) else r.2 t.2.2.1 t.2.2.2)
      by_cases hy : t.2.2.1 = x
      · rw [if_pos hy, if_neg (fun e => jne h4 ⟨hy, e⟩)]
      · rw [if_neg hy]
/-- cells of the reference that are in no group -/
theorem JJ.ra (J : JJ n M r TL CL) {x j : Nat} {v : Int32} (h : jokR x = true) : JJ n M (ua r x j v) TL CL := by
  unfold jokR at h
  simp only [Bool.and_eq_true, decide_eq_true_eq, List.all_eq_true] at h
  obtain ⟨hx, h1, h2, h3⟩ := h
  have hu : ∀ y, y ≠ x → (ua r x j v).2 y = r.2 y := fun y hy => funext (fun i => if_neg hy)
  refine J.congr J.1 (fun t ht => ?_) (fun t ht i hi => ?_) hF_rf (fun _ _ => rfl) (fun _ _ => rfl) (fun _ _ => rfl) (fun k hk => hu k (fun e => by have := h1 k hk; rw [e] at this; simp at this))
  · rw [J.2.1 t ht]
    unfold j_loc
    by_cases hy : t.2.2.1 = 0
    · rw [if_pos hy, if_pos hy]; rfl
    · rw [if_neg hy, if_neg hy, hu _ (fun e => by have := h2 t ht; rw [e] at this; simp at this)]
  · rw [hu _ (fun e => by have := h3 t ht; rw [e] at this; simp at this)]; exact J.2.2.1 t ht i hi
theorem JJ.rf (J : JJ n M r TL CL) {g : Nat} {v : Int32} (h : jokF g = true) : JJ n M (uf r g v) TL CL := by
  unfold jokF at h
  simp only [Bool.and_eq_true, List.all_eq_true] at h
  obtain ⟨h1, hq, h2⟩ := h
  have hq : ∀ k, k ∈ jQl → k ≠ g := fun k hk e => by have := hq k hk; rw [e] at this; simp at this
  refine J.congr J.1 (fun t ht => ?_) (fun t ht i hi => J.2.2.1 t ht i hi) hF_rf (fun _ _ => rfl) (fun _ _ => rfl) (fun k hk => if_neg (fun e => by have := h1 k hk; rw [e] at this; simp at this)) (fun _ _ => rfl)
  rw [J.2.1 t ht]
  unfold j_loc
  by_cases hy : t.2.2.1 = 0
  · rw [if_pos hy, if_pos hy]
    exact (j_fvu hq (fun e => jne (h2 t ht) ⟨hy, e⟩)).symm
  · rw [if_neg hy, if_neg hy]; rfl
/-- a field of both, where the held values are looked at by hand -/
theorem JS.sfG (J : JS n M r) {r1 : q_R} {g c : Nat} {v : Int32} (key : ∀ t, t ∈ jT → (t.1 = g ∧ t.2.1 = c → v = j_loc r1 t.2.2.1 t.2.2.2) ∧ (¬ (t.1 = g ∧ t.2.1 = c) → j_loc r1 t.2.2.1 t.2.2.2 = j_loc r t.2.2.1 t.2.2.2)) : JS n (z_sfi M g (n + c) v) r1 := by
  intro t ht
  by_cases e : t.1 = g ∧ t.2.1 = c
  · rw [← (key t ht).1 e, e.1, e.2, zq_fi_sfi, if_pos rfl, if_pos rfl]
  · rw [jfi e, J t ht, (key t ht).2 e]
theorem JJ.sfG (J : JJ n M r TL CL) {r1 : q_R} {g c : Nat} {v : Int32} (hc : c < 108) (h1 : ∀ q, q ∈ jXF → ¬ (q.1 = g ∧ q.2 = c)) (hf : ∀ k, k ∈ jRF → r1.1 k = r.1 k) (h2 : r1.2 = r.2) (key : ∀ t, t ∈ jT → (t.1 = g ∧ t.2.1 = c → v = j_loc r1 t.2.2.1 t.2.2.2) ∧ (¬ (t.1 = g ∧ t.2.1 = c) → j_loc r1 t.2.2.1 t.2.2.2 = j_loc r t.2.2.1 t.2.2.2)) : JJ n (z_sfi M g (n + c) v) r1 TL CL :=
  J.congr (S_sfi J.1) (J.2.1.sfG key) (fun t ht i hi => by rw [h2]; exact J.2.2.1 t ht i hi) (hF_sfi hc) (fun _ _ => rfl) (fun q hq => jfi (h1 q hq)) hf (fun _ _ => by rw [h2])
theorem j_lk {r1 : q_R} {g c j : Nat} {v : Int32} (hT : ∀ t, t ∈ jT → (t.1 = g ∧ t.2.1 = c → t.2.2.1 = 0 ∧ t.2.2.2 = j)) (hv : v = j_fv r1 j) (h2 : r1.2 = r.2) (hO : ∀ i, i ≠ j → i ∈ (jT.map (fun t => t.2.2.2)) → j_fv r1 i = j_fv r i) (hT2 : ∀ t, t ∈ jT → ¬ (t.1 = g ∧ t.2.1 = c) → t.2.2.1 = 0 → t.2.2.2 ≠ j) : ∀ t, t ∈ jT → (t.1 = g ∧ t.2.1 = c → v = j_loc r1 t.2.2.1 t.2.2.2) ∧ (¬ (t.1 = g ∧ t.2.1 = c) → j_loc r1 t.2.2.1 t.2.2.2 = j_loc r t.2.2.1 t.2.2.2) := fun t ht => by
  refine ⟨fun e => ?_, fun e => ?_⟩
  · obtain ⟨a, b⟩ := hT t ht e
    unfold j_loc
    rw [if_pos a, b]; exact hv
  · unfold j_loc
    by_cases hx : t.2.2.1 = 0
    · rw [if_pos hx, if_pos hx]
      exact hO _ (hT2 t ht e hx) (List.mem_map.mpr ⟨t, ht, rfl⟩)
    · rw [if_neg hx, if_neg hx, h2]
theorem j_fvo {r1 : q_R} {i : Nat} (h1 : i = 1764 → r1.1 1562 = r.1 1562 ∧ r1.1 1564 = r.1 1564) (h2 : i = 1781 → r1.1 1577 = r.1 1577 ∧ r1.1 1581 = r.1 1581) (h : r1.1 i = r.1 i) : j_fv r1 i = j_fv r i := by
  unfold j_fv
  by_cases a : i = 1764
  · rw [if_pos a, if_pos a, (h1 a).1, (h1 a).2]
  · rw [if_neg a, if_neg a]
    by_cases b : i = 1781
    · rw [if_pos b, if_pos b, (h2 b).1, (h2 b).2]
    · rw [if_neg b, if_neg b, h]
/-- the server is established: its state and whether it takes early data -/
theorem JJ.est (J : JJ n M r TL CL) {x : Int32} : JJ n (z_sfi (z_sfi M 1026 (n + 28) 1) 1028 (n + 28) x) (uf (uf r 1562 1) 1564 x) TL CL := by
  refine J.congr (S_sfi (S_sfi J.1)) (fun t ht => ?_) (fun t ht i hi => J.2.2.1 t ht i hi) (hF_tr (hF_sfi (by decide)) (hF_sfi (by decide))) (fun _ _ => rfl) (fun q hq => ?_) (fun k hk => ?_) (fun _ _ => rfl)
  · have hT : ∀ t, t ∈ jT → t = (1026, 28, 0, 1562) ∨ t = (1028, 28, 0, 1764) ∨ (¬ (t.1 = 1026 ∧ t.2.1 = 28) ∧ ¬ (t.1 = 1028 ∧ t.2.1 = 28) ∧ (t.2.2.1 = 0 → t.2.2.2 ≠ 1562 ∧ t.2.2.2 ≠ 1564 ∧ t.2.2.2 ≠ 1764)) := by decide
    rcases hT t ht with rfl | rfl | ⟨h1, h2, h3⟩
    · show z_fi (z_sfi (z_sfi M 1026 (n + 28) 1) 1028 (n + 28) x) 1026 (n + 28) = j_fv (uf (uf r 1562 1) 1564 x) 1562
      rw [zq_fi_sfi, if_neg (by decide), zq_fi_sfi, if_pos rfl, if_pos rfl, j_fvn (by decide) (by decide)]; rfl
    · show z_fi (z_sfi (z_sfi M 1026 (n + 28) 1) 1028 (n + 28) x) 1028 (n + 28) = j_fv (uf (uf r 1562 1) 1564 x) 1764
      rw [zq_fi_sfi, if_pos rfl, if_pos rfl]
      unfold j_fv
      rw [if_pos rfl, if_neg (show ¬ ((uf (uf r 1562 1) 1564 x).1 1562 = 0 ∨ (uf (uf r 1562 1) 1564 x).1 1562 = 3) from by show ¬ ((1 : Int32) = 0 ∨ (1 : Int32) = 3); decide)]; rfl
    · rw [jfi h2, jfi h1, J.2.1 t ht]
      unfold j_loc
      by_cases hx : t.2.2.1 = 0
      · obtain ⟨a, b, c⟩ := h3 hx
        rw [if_pos hx, if_pos hx]
        refine (j_fvo (r := r) (r1 := uf (uf r 1562 1) 1564 x) (fun e => absurd e c) (fun _ => ⟨rfl, rfl⟩) ?_).symm
        show (if t.2.2.2 = 1564 then x else if t.2.2.2 = 1562 then 1 else r.1 t.2.2.2) = r.1 t.2.2.2
        rw [if_neg b, if_neg a]
      · rw [if_neg hx, if_neg hx]; rfl
  · have hq2 := (show ∀ q, q ∈ jXF → ¬ (q.1 = 1026 ∧ q.2 = 28) ∧ ¬ (q.1 = 1028 ∧ q.2 = 28) from by decide) q hq
    rw [jfi hq2.2, jfi hq2.1]
  · have := (show ∀ k, k ∈ jRF → k ≠ 1564 ∧ k ≠ 1562 from by decide) k hk
    show (if k = 1564 then x else if k = 1562 then 1 else r.1 k) = r.1 k
    rw [if_neg this.1, if_neg this.2]
/-- the server closes -/
theorem JJ.shut (J : JJ n M r TL CL) (h : ¬ (r.1 1562 = 0 ∨ r.1 1562 = 3)) : JJ n (z_sfi M 1026 (n + 28) 2) (uf r 1562 2) TL CL := by
  refine J.sfG (by decide) (by decide) (fun k hk => ?_) rfl (j_lk (j := 1562) (by decide) ?_ rfl (fun i hi _ => ?_) (by decide))
  · have := (show ∀ k, k ∈ jRF → k ≠ 1562 from by decide) k hk
    exact if_neg this
  · rw [j_fvn (by decide) (by decide)]; rfl
  · by_cases e : i = 1764
    · rw [e]
      unfold j_fv
      rw [if_pos rfl, if_pos rfl, if_neg h, if_neg (show ¬ ((uf r 1562 2).1 1562 = 0 ∨ (uf r 1562 2).1 1562 = 3) from by show ¬ ((2 : Int32) = 0 ∨ (2 : Int32) = 3); decide)]; rfl
    · exact j_fvo (fun e2 => absurd e2 e) (fun _ => ⟨rfl, rfl⟩) (if_neg hi)
/-- how long a hello waits -/
theorem JJ.wait (J : JJ n M r TL CL) (h : ¬ r.1 1577 = 0) {v : Int32} : JJ n (z_sfi M 140 (n + 31) v) (uf r 1581 v) TL CL := by
  refine J.sfG (by decide) (by decide) (fun k hk => ?_) rfl (j_lk (j := 1781) (by decide) ?_ rfl (fun i hi hm => ?_) (by decide))
  · have := (show ∀ k, k ∈ jRF → k ≠ 1581 from by decide) k hk
    exact if_neg this
  · unfold j_fv
    rw [if_neg (by decide), if_pos rfl, if_neg (show ¬ (uf r 1581 v).1 1577 = 0 from h)]; rfl
  · have := (show ∀ i, i ∈ (jT.map (fun t => t.2.2.2)) → i ≠ 1581 from by decide) i hm
    exact j_fvo (fun _ => ⟨rfl, rfl⟩) (fun e => absurd e hi) (if_neg this)
/-- the client's state -/
theorem JS.st77 (J : JS n M r) {v : Int32} (hv : ¬ v = 0) (h : ¬ r.1 1577 = 0) : JS n (z_sfi M 135 (n + 31) v) (uf r 1577 v) := by
  refine J.sfG (j_lk (j := 1577) (by decide) ?_ rfl (fun i hi _ => ?_) (by decide))
  · rw [j_fvn (by decide) (by decide)]; rfl
  · by_cases e : i = 1781
    · have e81 : ∀ q : q_R, j_fv q 1781 = (if q.1 1577 = 0 then 10 else q.1 1581) := fun q => by
        unfold j_fv
        rw [if_neg (by decide), if_pos rfl]
      rw [e, e81, e81, if_neg h, if_neg (show ¬ (uf r 1577 v).1 1577 = 0 from hv)]; rfl
    · exact j_fvo (fun _ => ⟨rfl, rfl⟩) (fun e2 => absurd e2 e) (if_neg hi)
theorem js_645_1 (J : JJ n M r TL CL) : z_fi M 645 (n + 1) = r.1 1536 := J.2.1.at 0 rfl
theorem js_384_2 (J : JJ n M r TL CL) : z_fi M 384 (n + 2) = r.2 41 0 := J.2.1.at 1 rfl
theorem js_385_2 (J : JJ n M r TL CL) : z_fi M 385 (n + 2) = r.2 42 0 := J.2.1.at 2 rfl
theorem js_386_2 (J : JJ n M r TL CL) : z_fi M 386 (n + 2) = r.2 43 0 := J.2.1.at 3 rfl
theorem js_387_2 (J : JJ n M r TL CL) : z_fi M 387 (n + 2) = r.2 44 0 := J.2.1.at 4 rfl
theorem js_389_2 (J : JJ n M r TL CL) : z_fi M 389 (n + 2) = r.2 46 0 := J.2.1.at 5 rfl
theorem js_390_2 (J : JJ n M r TL CL) : z_fi M 390 (n + 2) = r.2 47 0 := J.2.1.at 6 rfl
theorem js_391_2 (J : JJ n M r TL CL) : z_fi M 391 (n + 2) = r.2 48 0 := J.2.1.at 7 rfl
theorem js_392_2 (J : JJ n M r TL CL) : z_fi M 392 (n + 2) = r.2 49 0 := J.2.1.at 8 rfl
theorem js_395_2 (J : JJ n M r TL CL) : z_fi M 395 (n + 2) = r.2 51 0 := J.2.1.at 9 rfl
theorem js_384_4 (J : JJ n M r TL CL) : z_fi M 384 (n + 4) = r.2 41 1 := J.2.1.at 10 rfl
theorem js_385_4 (J : JJ n M r TL CL) : z_fi M 385 (n + 4) = r.2 42 1 := J.2.1.at 11 rfl
theorem js_386_4 (J : JJ n M r TL CL) : z_fi M 386 (n + 4) = r.2 43 1 := J.2.1.at 12 rfl
theorem js_387_4 (J : JJ n M r TL CL) : z_fi M 387 (n + 4) = r.2 44 1 := J.2.1.at 13 rfl
theorem js_389_4 (J : JJ n M r TL CL) : z_fi M 389 (n + 4) = r.2 46 1 := J.2.1.at 14 rfl
theorem js_390_4 (J : JJ n M r TL CL) : z_fi M 390 (n + 4) = r.2 47 1 := J.2.1.at 15 rfl
theorem js_391_4 (J : JJ n M r TL CL) : z_fi M 391 (n + 4) = r.2 48 1 := J.2.1.at 16 rfl
theorem js_392_4 (J : JJ n M r TL CL) : z_fi M 392 (n + 4) = r.2 49 1 := J.2.1.at 17 rfl
theorem js_395_4 (J : JJ n M r TL CL) : z_fi M 395 (n + 4) = r.2 51 1 := J.2.1.at 18 rfl
theorem js_1026_28 (J : JJ n M r TL CL) : z_fi M 1026 (n + 28) = r.1 1562 := J.2.1.at 19 rfl
theorem js_1027_28 (J : JJ n M r TL CL) : z_fi M 1027 (n + 28) = r.1 1563 := J.2.1.at 20 rfl
theorem js_1028_28 (J : JJ n M r TL CL) (h : ¬ (r.1 1562 = 0 ∨ r.1 1562 = 3)) : z_fi M 1028 (n + 28) = r.1 1564 := by
  have e : z_fi M 1028 (n + 28) = j_fv r 1764 := J.2.1.at 21 rfl
  rw [e]
  unfold j_fv
  rw [if_pos rfl, if_neg h]
theorem js_1030_28 (J : JJ n M r TL CL) : z_fi M 1030 (n + 28) = r.1 1566 := J.2.1.at 22 rfl
theorem js_1031_28 (J : JJ n M r TL CL) : z_fi M 1031 (n + 28) = r.1 1567 := J.2.1.at 23 rfl
theorem js_1034_28 (J : JJ n M r TL CL) : z_fi M 1034 (n + 28) = r.1 1572 := J.2.1.at 24 rfl
theorem js_1035_28 (J : JJ n M r TL CL) : z_fi M 1035 (n + 28) = r.1 1576 := J.2.1.at 25 rfl
theorem js_1036_28 (J : JJ n M r TL CL) : z_fi M 1036 (n + 28) = r.1 1573 := J.2.1.at 26 rfl
theorem js_1037_28 (J : JJ n M r TL CL) : z_fi M 1037 (n + 28) = r.1 1574 := J.2.1.at 27 rfl
theorem js_1038_28 (J : JJ n M r TL CL) : z_fi M 1038 (n + 28) = r.1 1575 := J.2.1.at 28 rfl
theorem js_133_31 (J : JJ n M r TL CL) : z_fi M 133 (n + 31) = r.1 1606 := J.2.1.at 29 rfl
theorem js_135_31 (J : JJ n M r TL CL) : z_fi M 135 (n + 31) = r.1 1577 := J.2.1.at 30 rfl
theorem js_136_31 (J : JJ n M r TL CL) : z_fi M 136 (n + 31) = r.1 1578 := J.2.1.at 31 rfl
theorem js_137_31 (J : JJ n M r TL CL) : z_fi M 137 (n + 31) = r.1 1579 := J.2.1.at 32 rfl
theorem js_139_31 (J : JJ n M r TL CL) : z_fi M 139 (n + 31) = r.1 1580 := J.2.1.at 33 rfl
theorem js_140_31 (J : JJ n M r TL CL) (h : ¬ r.1 1577 = 0) : z_fi M 140 (n + 31) = r.1 1581 := by
  have e : z_fi M 140 (n + 31) = j_fv r 1781 := J.2.1.at 34 rfl
  rw [e]
  unfold j_fv
  rw [if_neg (by decide), if_pos rfl, if_neg h]
theorem js_142_31 (J : JJ n M r TL CL) : z_fi M 142 (n + 31) = r.1 1584 := J.2.1.at 35 rfl
theorem js_143_31 (J : JJ n M r TL CL) : z_fi M 143 (n + 31) = r.1 1583 := J.2.1.at 36 rfl
theorem js_144_31 (J : JJ n M r TL CL) : z_fi M 144 (n + 31) = r.1 1589 := J.2.1.at 37 rfl
theorem js_145_31 (J : JJ n M r TL CL) : z_fi M 145 (n + 31) = r.1 1590 := J.2.1.at 38 rfl
theorem js_146_31 (J : JJ n M r TL CL) : z_fi M 146 (n + 31) = r.1 1585 := J.2.1.at 39 rfl
theorem js_898_32 (J : JJ n M r TL CL) : z_fi M 898 (n + 32) = r.2 92 0 := J.2.1.at 40 rfl
theorem js_900_32 (J : JJ n M r TL CL) : z_fi M 900 (n + 32) = r.2 87 0 := J.2.1.at 41 rfl
theorem js_901_32 (J : JJ n M r TL CL) : z_fi M 901 (n + 32) = r.2 88 0 := J.2.1.at 42 rfl
theorem js_902_32 (J : JJ n M r TL CL) : z_fi M 902 (n + 32) = r.2 89 0 := J.2.1.at 43 rfl
theorem js_903_32 (J : JJ n M r TL CL) : z_fi M 903 (n + 32) = r.2 90 0 := J.2.1.at 44 rfl
theorem js_904_32 (J : JJ n M r TL CL) : z_fi M 904 (n + 32) = r.2 91 0 := J.2.1.at 45 rfl
theorem js_905_32 (J : JJ n M r TL CL) : z_fi M 905 (n + 32) = r.2 93 0 := J.2.1.at 46 rfl
theorem js_906_32 (J : JJ n M r TL CL) : z_fi M 906 (n + 32) = r.2 94 0 := J.2.1.at 47 rfl
theorem js_907_32 (J : JJ n M r TL CL) : z_fi M 907 (n + 32) = r.2 97 0 := J.2.1.at 48 rfl
theorem js_908_32 (J : JJ n M r TL CL) : z_fi M 908 (n + 32) = r.2 95 0 := J.2.1.at 49 rfl
theorem js_910_32 (J : JJ n M r TL CL) : z_fi M 910 (n + 32) = r.2 96 0 := J.2.1.at 50 rfl
theorem js_909_32 (J : JJ n M r TL CL) : z_fi M 909 (n + 32) = r.2 105 0 := J.2.1.at 51 rfl
theorem js_256_33 (J : JJ n M r TL CL) : z_fi M 256 (n + 33) = r.2 86 0 := J.2.1.at 52 rfl
theorem js_257_33 (J : JJ n M r TL CL) : z_fi M 257 (n + 33) = r.2 84 0 := J.2.1.at 53 rfl
theorem js_258_33 (J : JJ n M r TL CL) : z_fi M 258 (n + 33) = r.2 85 0 := J.2.1.at 54 rfl
theorem js_262_33 (J : JJ n M r TL CL) : z_fi M 262 (n + 33) = r.2 101 0 := J.2.1.at 55 rfl
theorem js_263_33 (J : JJ n M r TL CL) : z_fi M 263 (n + 33) = r.2 100 0 := J.2.1.at 56 rfl
theorem js_264_33 (J : JJ n M r TL CL) : z_fi M 264 (n + 33) = r.2 102 0 := J.2.1.at 57 rfl
theorem js_898_35 (J : JJ n M r TL CL) : z_fi M 898 (n + 35) = r.2 92 1 := J.2.1.at 58 rfl
theorem js_900_35 (J : JJ n M r TL CL) : z_fi M 900 (n + 35) = r.2 87 1 := J.2.1.at 59 rfl
theorem js_901_35 (J : JJ n M r TL CL) : z_fi M 901 (n + 35) = r.2 88 1 := J.2.1.at 60 rfl
theorem js_902_35 (J : JJ n M r TL CL) : z_fi M 902 (n + 35) = r.2 89 1 := J.2.1.at 61 rfl
theorem js_903_35 (J : JJ n M r TL CL) : z_fi M 903 (n + 35) = r.2 90 1 := J.2.1.at 62 rfl
theorem js_904_35 (J : JJ n M r TL CL) : z_fi M 904 (n + 35) = r.2 91 1 := J.2.1.at 63 rfl
theorem js_905_35 (J : JJ n M r TL CL) : z_fi M 905 (n + 35) = r.2 93 1 := J.2.1.at 64 rfl
theorem js_906_35 (J : JJ n M r TL CL) : z_fi M 906 (n + 35) = r.2 94 1 := J.2.1.at 65 rfl
theorem js_907_35 (J : JJ n M r TL CL) : z_fi M 907 (n + 35) = r.2 97 1 := J.2.1.at 66 rfl
theorem js_908_35 (J : JJ n M r TL CL) : z_fi M 908 (n + 35) = r.2 95 1 := J.2.1.at 67 rfl
theorem js_910_35 (J : JJ n M r TL CL) : z_fi M 910 (n + 35) = r.2 96 1 := J.2.1.at 68 rfl
theorem js_909_35 (J : JJ n M r TL CL) : z_fi M 909 (n + 35) = r.2 105 1 := J.2.1.at 69 rfl
theorem js_256_36 (J : JJ n M r TL CL) : z_fi M 256 (n + 36) = r.2 86 1 := J.2.1.at 70 rfl
theorem js_257_36 (J : JJ n M r TL CL) : z_fi M 257 (n + 36) = r.2 84 1 := J.2.1.at 71 rfl
theorem js_258_36 (J : JJ n M r TL CL) : z_fi M 258 (n + 36) = r.2 85 1 := J.2.1.at 72 rfl
theorem js_262_36 (J : JJ n M r TL CL) : z_fi M 262 (n + 36) = r.2 101 1 := J.2.1.at 73 rfl
theorem js_263_36 (J : JJ n M r TL CL) : z_fi M 263 (n + 36) = r.2 100 1 := J.2.1.at 74 rfl
theorem js_264_36 (J : JJ n M r TL CL) : z_fi M 264 (n + 36) = r.2 102 1 := J.2.1.at 75 rfl
theorem js_1152_12 (J : JJ n M r TL CL) : z_fi M 1152 (n + 12) = r.2 66 0 := J.2.1.at 76 rfl
theorem js_1153_12 (J : JJ n M r TL CL) : z_fi M 1153 (n + 12) = r.2 67 0 := J.2.1.at 77 rfl
theorem js_1156_12 (J : JJ n M r TL CL) : z_fi M 1156 (n + 12) = r.2 68 0 := J.2.1.at 78 rfl
theorem js_1158_12 (J : JJ n M r TL CL) : z_fi M 1158 (n + 12) = r.2 65 0 := J.2.1.at 79 rfl
theorem js_1152_16 (J : JJ n M r TL CL) : z_fi M 1152 (n + 16) = r.2 66 1 := J.2.1.at 80 rfl
theorem js_1153_16 (J : JJ n M r TL CL) : z_fi M 1153 (n + 16) = r.2 67 1 := J.2.1.at 81 rfl
theorem js_1156_16 (J : JJ n M r TL CL) : z_fi M 1156 (n + 16) = r.2 68 1 := J.2.1.at 82 rfl
theorem js_1158_16 (J : JJ n M r TL CL) : z_fi M 1158 (n + 16) = r.2 65 1 := J.2.1.at 83 rfl
theorem js_1152_20 (J : JJ n M r TL CL) : z_fi M 1152 (n + 20) = r.2 66 2 := J.2.1.at 84 rfl
theorem js_1153_20 (J : JJ n M r TL CL) : z_fi M 1153 (n + 20) = r.2 67 2 := J.2.1.at 85 rfl
theorem js_1156_20 (J : JJ n M r TL CL) : z_fi M 1156 (n + 20) = r.2 68 2 := J.2.1.at 86 rfl
theorem js_1158_20 (J : JJ n M r TL CL) : z_fi M 1158 (n + 20) = r.2 65 2 := J.2.1.at 87 rfl
theorem js_1152_24 (J : JJ n M r TL CL) : z_fi M 1152 (n + 24) = r.2 66 3 := J.2.1.at 88 rfl
theorem js_1153_24 (J : JJ n M r TL CL) : z_fi M 1153 (n + 24) = r.2 67 3 := J.2.1.at 89 rfl
theorem js_1156_24 (J : JJ n M r TL CL) : z_fi M 1156 (n + 24) = r.2 68 3 := J.2.1.at 90 rfl
theorem js_1158_24 (J : JJ n M r TL CL) : z_fi M 1158 (n + 24) = r.2 65 3 := J.2.1.at 91 rfl
theorem ja_13 (J : JJ n M r TL CL) {j : Nat} (hj : j < 200) : z_ai M (n + 13) j = r.2 69 (0 + j) := J.2.2.1.at 0 rfl hj
theorem ja_14 (J : JJ n M r TL CL) {j : Nat} (hj : j < 200) : z_ai M (n + 14) j = r.2 70 (0 + j) := J.2.2.1.at 1 rfl hj
theorem ja_15 (J : JJ n M r TL CL) {j : Nat} (hj : j < 200) : z_ai M (n + 15) j = r.2 64 (0 + j) := J.2.2.1.at 2 rfl hj
theorem ja_17 (J : JJ n M r TL CL) {j : Nat} (hj : j < 200) : z_ai M (n + 17) j = r.2 69 (200 + j) := J.2.2.1.at 3 rfl hj
theorem ja_18 (J : JJ n M r TL CL) {j : Nat} (hj : j < 200) : z_ai M (n + 18) j = r.2 70 (200 + j) := J.2.2.1.at 4 rfl hj
theorem ja_19 (J : JJ n M r TL CL) {j : Nat} (hj : j < 200) : z_ai M (n + 19) j = r.2 64 (200 + j) := J.2.2.1.at 5 rfl hj
theorem ja_21 (J : JJ n M r TL CL) {j : Nat} (hj : j < 200) : z_ai M (n + 21) j = r.2 69 (400 + j) := J.2.2.1.at 6 rfl hj
theorem ja_22 (J : JJ n M r TL CL) {j : Nat} (hj : j < 200) : z_ai M (n + 22) j = r.2 70 (400 + j) := J.2.2.1.at 7 rfl hj
theorem ja_23 (J : JJ n M r TL CL) {j : Nat} (hj : j < 200) : z_ai M (n + 23) j = r.2 64 (400 + j) := J.2.2.1.at 8 rfl hj
theorem ja_25 (J : JJ n M r TL CL) {j : Nat} (hj : j < 200) : z_ai M (n + 25) j = r.2 69 (600 + j) := J.2.2.1.at 9 rfl hj
theorem ja_26 (J : JJ n M r TL CL) {j : Nat} (hj : j < 200) : z_ai M (n + 26) j = r.2 70 (600 + j) := J.2.2.1.at 10 rfl hj
theorem ja_27 (J : JJ n M r TL CL) {j : Nat} (hj : j < 200) : z_ai M (n + 27) j = r.2 64 (600 + j) := J.2.2.1.at 11 rfl hj
theorem ja_34 (J : JJ n M r TL CL) {j : Nat} (hj : j < 8) : z_ai M (n + 34) j = r.2 98 (0 + j) := J.2.2.1.at 12 rfl hj
theorem ja_37 (J : JJ n M r TL CL) {j : Nat} (hj : j < 8) : z_ai M (n + 37) j = r.2 98 (8 + j) := J.2.2.1.at 13 rfl hj
theorem ja_29 (J : JJ n M r TL CL) {j : Nat} (hj : j < 10) : z_ai M (n + 29) j = r.2 62 (0 + j) := J.2.2.1.at 14 rfl hj
theorem ja_30 (J : JJ n M r TL CL) {j : Nat} (hj : j < 400) : z_ai M (n + 30) j = r.2 63 (0 + j) := J.2.2.1.at 15 rfl hj
theorem jp_769 {pk i : Nat} (h : ∀ t, t ∈ jPT → z_fi M t.1 pk = r.2 t.2 i) : z_fi M 769 pk = r.2 71 i := h (769, 71) (by decide)
theorem jp_770 {pk i : Nat} (h : ∀ t, t ∈ jPT → z_fi M t.1 pk = r.2 t.2 i) : z_fi M 770 pk = r.2 72 i := h (770, 72) (by decide)
theorem jp_771 {pk i : Nat} (h : ∀ t, t ∈ jPT → z_fi M t.1 pk = r.2 t.2 i) : z_fi M 771 pk = r.2 73 i := h (771, 73) (by decide)
theorem jp_772 {pk i : Nat} (h : ∀ t, t ∈ jPT → z_fi M t.1 pk = r.2 t.2 i) : z_fi M 772 pk = r.2 74 i := h (772, 74) (by decide)
theorem jp_773 {pk i : Nat} (h : ∀ t, t ∈ jPT → z_fi M t.1 pk = r.2 t.2 i) : z_fi M 773 pk = r.2 75 i := h (773, 75) (by decide)
theorem jp_774 {pk i : Nat} (h : ∀ t, t ∈ jPT → z_fi M t.1 pk = r.2 t.2 i) : z_fi M 774 pk = r.2 78 i := h (774, 78) (by decide)
theorem jp_775 {pk i : Nat} (h : ∀ t, t ∈ jPT → z_fi M t.1 pk = r.2 t.2 i) : z_fi M 775 pk = r.2 79 i := h (775, 79) (by decide)
theorem jp_776 {pk i : Nat} (h : ∀ t, t ∈ jPT → z_fi M t.1 pk = r.2 t.2 i) : z_fi M 776 pk = r.2 80 i := h (776, 80) (by decide)
theorem jp_777 {pk i : Nat} (h : ∀ t, t ∈ jPT → z_fi M t.1 pk = r.2 t.2 i) : z_fi M 777 pk = r.2 81 i := h (777, 81) (by decide)
theorem jp_778 {pk i : Nat} (h : ∀ t, t ∈ jPT → z_fi M t.1 pk = r.2 t.2 i) : z_fi M 778 pk = r.2 76 i := h (778, 76) (by decide)
theorem jp_780 {pk i : Nat} (h : ∀ t, t ∈ jPT → z_fi M t.1 pk = r.2 t.2 i) : z_fi M 780 pk = r.2 82 i := h (780, 82) (by decide)
theorem jp_781 {pk i : Nat} (h : ∀ t, t ∈ jPT → z_fi M t.1 pk = r.2 t.2 i) : z_fi M 781 pk = r.2 83 i := h (781, 83) (by decide)
end JW
