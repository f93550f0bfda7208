/-! ===== THE LIKENESS: what is due is taken (2) ===== -/
section JTL
variable {n : Nat} {M M0 M1 M2 M3 : z_Mem} {r r1 r2 : q_R} {TL CL A B : List Nat} {t s q z k : Nat} {d : Int}
/-- what is under way: later than v, or at v and from k on -/
def dl (f : Nat → Int32) (v : Int32) (k L : Nat) : List Nat := (List.range L).filter (fun i => decide (v.toInt < (f i).toInt) || (decide (f i = v) && decide (k ≤ i)))
theorem dl_skip {f : Nat → Int32} {v : Int32} {k L : Nat} (h : ¬ f k = v) : dl f v (k + 1) L = dl f v k L := by
  unfold dl
  refine List.filter_congr (fun i _ => ?_)
  by_cases e : f i = v
  · have : i ≠ k := fun e2 => h (by rw [← e2]; exact e)
    rw [decide_eq_true e]
    by_cases c : k ≤ i
    · rw [decide_eq_true c, decide_eq_true (show k + 1 ≤ i by omega)]
    · rw [decide_eq_false c, decide_eq_false (show ¬ k + 1 ≤ i by omega)]
  · rw [decide_eq_false e]; rfl
theorem dl_end {f : Nat → Int32} {v : Int32} {k L : Nat} (h : L ≤ k) : dl f v k L = (List.range L).filter (fun i => decide (v.toInt + 1 ≤ (f i).toInt)) ∧ ∀ i, i ∈ dl f v k L → ¬ f i = v := by
  have e : dl f v k L = (List.range L).filter (fun i => decide (v.toInt + 1 ≤ (f i).toInt)) := by
    unfold dl
    refine List.filter_congr (fun i hi => ?_)
    have := List.mem_range.mp hi
    rw [decide_eq_false (show ¬ k ≤ i by omega), Bool.and_false, Bool.or_false]
    by_cases c : v.toInt < (f i).toInt
    · rw [decide_eq_true c, decide_eq_true (show v.toInt + 1 ≤ (f i).toInt by omega)]
    · rw [decide_eq_false c, decide_eq_false (show ¬ v.toInt + 1 ≤ (f i).toInt by omega)]
  refine ⟨e, fun i hi h2 => ?_⟩
  rw [e] at hi
  have := of_decide_eq_true (List.mem_filter.mp hi).2
  rw [h2] at this
  omega
theorem dl_0 {f : Nat → Int32} {v : Int32} {L : Nat} : dl f v 0 L = (List.range L).filter (fun i => decide (v.toInt ≤ (f i).toInt)) := by
  unfold dl
  refine List.filter_congr (fun i _ => ?_)
  rw [decide_eq_true (Nat.zero_le i), Bool.and_true]
  by_cases e : f i = v
  · rw [decide_eq_true e, e, decide_eq_true (Int.le_refl _), Bool.or_true]
  · have : (f i).toInt ≠ v.toInt := fun h => e (Int32.toInt_inj.mp h)
    rw [decide_eq_false e, Bool.or_false]
    by_cases c : v.toInt < (f i).toInt
    · rw [decide_eq_true c, decide_eq_true (show v.toInt ≤ (f i).toInt by omega)]
    · rw [decide_eq_false c, decide_eq_false (show ¬ v.toInt ≤ (f i).toInt by omega)]
theorem dl_split {f : Nat → Int32} {v : Int32} {k L : Nat} (hk : k < L) (h : f k = v) : ∃ A B, dl f v k L = A ++ k :: B ∧ dl f v (k + 1) L = A ++ B ∧ ∀ i, i ∈ A → ¬ f i = v := by
  have e : List.range L = List.range k ++ k :: (List.range (L - k - 1)).map (fun i => k + (i + 1)) := by
    obtain ⟨d, hd⟩ : ∃ d, L = k + (d + 1) := ⟨L - k - 1, by omega⟩
    rw [hd, List.range_add, show k + (d + 1) - k - 1 = d by omega, List.range_succ_eq_map, List.map_cons, List.map_map]
    rfl
  refine ⟨(List.range k).filter (fun i => decide (v.toInt < (f i).toInt) || (decide (f i = v) && decide (k ≤ i))), ((List.range (L - k - 1)).map (fun i => k + (i + 1))).filter (fun i => decide (v.toInt < (f i).toInt) || (decide (f i = v) && decide (k ≤ i))), ?_, ?_, fun i hi h2 => ?_⟩
  · unfold dl
    rw [e, List.filter_append, List.filter_cons, h, decide_eq_true (rfl : v = v), decide_eq_true (Nat.le_refl k), Bool.and_true, Bool.or_true, if_pos rfl]
  · unfold dl
    rw [e, List.filter_append, List.filter_cons, h, decide_eq_true (rfl : v = v), decide_eq_false (show ¬ k + 1 ≤ k by omega), Bool.and_false, Bool.or_false, decide_eq_false (show ¬ v.toInt < v.toInt by omega), if_neg (by decide)]
    congr 1
    · refine List.filter_congr (fun i hi => ?_)
      have := List.mem_range.mp hi
      rw [decide_eq_false (show ¬ k + 1 ≤ i by omega), decide_eq_false (show ¬ k ≤ i by omega)]
    · refine List.filter_congr (fun i hi => ?_)
      obtain ⟨i', _, e2⟩ := List.mem_map.mp hi
      rw [decide_eq_true (show k + 1 ≤ i by omega), decide_eq_true (show k ≤ i by omega)]
  · obtain ⟨h3, h4⟩ := List.mem_filter.mp hi
    have := List.mem_range.mp h3
    rw [decide_eq_false (show ¬ k ≤ i by omega), Bool.and_false, Bool.or_false] at h4
    have := of_decide_eq_true h4
    rw [h2] at this
    omega
theorem dl_at {j : Nat} : (A ++ B)[j]? = (A ++ k :: B)[if j < A.length then j else j + 1]? := by
  by_cases c : j < A.length
  · rw [if_pos c, List.getElem?_append_left c, List.getElem?_append_left c]
  · rw [if_neg c, List.getElem?_append_right (by omega), List.getElem?_append_right (by omega), show j + 1 - A.length = (j - A.length) + 1 by omega, List.getElem?_cons_succ]
theorem dl_mid : (A ++ k :: B)[A.length]? = some k := by
  rw [List.getElem?_append_right (Nat.le_refl _), Nat.sub_self]; rfl
theorem dl_len : (A ++ k :: B).length = (A ++ B).length + 1 := by
  rw [List.length_append, List.length_append, List.length_cons]; omega
theorem JJ.takeT (J : JJ n M r (A ++ k :: B) CL) : ∃ m, z_ar M (n + 7) A.length = some m ∧ j_mS n (j_tk M (n + 6) (n + 7) (A ++ k :: B).length A.length) r m (jN (r.2 55 k)) ∧ jN (r.2 55 k) < jN (r.1 1551) ∧ JJ n (j_tk M (n + 6) (n + 7) (A ++ k :: B).length A.length) r (A ++ B) CL := by
  obtain ⟨S, js, ja, X, P, Q, T, C⟩ := J
  have H : hF n M (j_tk M (n + 6) (n + 7) (A ++ k :: B).length A.length) := hF_tr hF_srr (hF_tr (hF_sfi (by decide)) hF_sar)
  have fi : ∀ {g c : Nat}, ¬ (g = 1281 ∧ c = 6) → z_fi (j_tk M (n + 6) (n + 7) (A ++ k :: B).length A.length) g (n + c) = z_fi M g (n + c) := fun {g c} h => by
    rw [j_tk_fi]
    by_cases e : g = 1281
    · rw [if_pos e, if_neg (fun e2 => h ⟨e, by omega⟩)]
    · rw [if_neg e]
  have fl : z_fi (j_tk M (n + 6) (n + 7) (A ++ k :: B).length A.length) 1281 (n + 6) = nI (A ++ B).length := by
    rw [j_tk_fi, if_pos rfl, if_pos rfl, dl_len (A := A) (B := B) (k := k)]; rfl
  have zn : ∀ {x : Nat}, x ≠ 7 → z_ar (j_tk M (n + 6) (n + 7) (A ++ k :: B).length A.length) (n + x) = z_ar M (n + x) := fun hx => j_tk_an (by omega)
  have zj : ∀ {j : Nat}, j < (A ++ B).length → z_ar (j_tk M (n + 6) (n + 7) (A ++ k :: B).length A.length) (n + 7) j = z_ar M (n + 7) (if j < A.length then j else j + 1) := fun hj => j_tk_ar (by rw [dl_len]; exact hj)
  have S2 : y_S n (j_tk M (n + 6) (n + 7) (A ++ k :: B).length A.length) := S_sar (by omega) (S_sfi (S_srr (by omega) S))
  have ja2 : ∀ a j, z_ai (j_tk M (n + 6) (n + 7) (A ++ k :: B).length A.length) a j = z_ai M a j := fun _ _ => rfl
  generalize j_tk M (n + 6) (n + 7) (A ++ k :: B).length A.length = M' at *
  have l2 : ∀ p, p < 2 → p = 0 ∨ p = 1 := fun p hp => by omega
  obtain ⟨m, g1, g2, g3, g4, g5⟩ := T.2.2.2 A.length k dl_mid
  refine ⟨m, g1, ?_, g4, S2, js.congr (fun t ht => fi (by revert ht; revert t; decide)) (fun _ _ => rfl), ja.congr (fun _ _ _ _ => ja2 _ _) (fun _ _ => rfl), X.congr (fun q hq => fi (by revert hq; revert q; decide)) (fun _ _ => rfl) (fun _ _ => rfl), P.congr H (zn (by omega)) rfl (fun _ _ => rfl), fun p hp => (Q p hp).congr H.m (zn (by omega)) (zn (by omega)) (fi (by omega)) rfl rfl (fun _ _ => rfl) (Nat.le_refl _) (fun _ _ _ _ => rfl), ⟨fl, by have := T.2.1; rw [dl_len] at this; omega, fun j hj => T.2.2.1 j ?_, fun i j e => ?_⟩, C.congr H.m (zn (by omega)) (fi (by omega)) (Nat.le_refl _) C.2.2.2.1 (Nat.le_refl _) (fun _ _ _ _ => rfl) (fun _ _ _ _ => rfl)⟩
  · exact g5.congr H.m (zn (by omega)) rfl rfl rfl rfl
  · rcases List.mem_append.mp hj with h | h
    · exact List.mem_append.mpr (Or.inl h)
    · exact List.mem_append.mpr (Or.inr (List.mem_cons_of_mem _ h))
  · have hi : i < (A ++ B).length := by
      by_cases c : i < (A ++ B).length
      · exact c
      · rw [List.getElem?_eq_none (by omega)] at e; exact absurd e (by simp)
    rw [dl_at (k := k)] at e
    obtain ⟨m', g1', g2', g3', g4', g5'⟩ := T.2.2.2 _ j e
    exact ⟨m', by rw [zj hi]; exact g1', by rw [(H.2 m' g5'.1 g5'.2.1).1]; exact g2', g3', g4', g5'.congr H.m (zn (by omega)) rfl rfl rfl rfl⟩
theorem JJ.takeC (J : JJ n M r TL (A ++ k :: B)) : ∃ m, z_ar M (n + 9) A.length = some m ∧ j_mC n (j_tk M (n + 8) (n + 9) (A ++ k :: B).length A.length) r m k ∧ JJ n (j_tk M (n + 8) (n + 9) (A ++ k :: B).length A.length) r TL (A ++ B) := by
  obtain ⟨S, js, ja, X, P, Q, T, C⟩ := J
  have H : hF n M (j_tk M (n + 8) (n + 9) (A ++ k :: B).length A.length) := hF_tr hF_srr (hF_tr (hF_sfi (by decide)) hF_sar)
  have fi : ∀ {g c : Nat}, ¬ (g = 1281 ∧ c = 8) → z_fi (j_tk M (n + 8) (n + 9) (A ++ k :: B).length A.length) g (n + c) = z_fi M g (n + c) := fun {g c} h => by
    rw [j_tk_fi]
    by_cases e : g = 1281
    · rw [if_pos e, if_neg (fun e2 => h ⟨e, by omega⟩)]
    · rw [if_neg e]
  have fl : z_fi (j_tk M (n + 8) (n + 9) (A ++ k :: B).length A.length) 1281 (n + 8) = nI (A ++ B).length := by
    rw [j_tk_fi, if_pos rfl, if_pos rfl, dl_len (A := A) (B := B) (k := k)]; rfl
  have zn : ∀ {x : Nat}, x ≠ 9 → z_ar (j_tk M (n + 8) (n + 9) (A ++ k :: B).length A.length) (n + x) = z_ar M (n + x) := fun hx => j_tk_an (by omega)
  have zj : ∀ {j : Nat}, j < (A ++ B).length → z_ar (j_tk M (n + 8) (n + 9) (A ++ k :: B).length A.length) (n + 9) j = z_ar M (n + 9) (if j < A.length then j else j + 1) := fun hj => j_tk_ar (by rw [dl_len]; exact hj)
  have S2 : y_S n (j_tk M (n + 8) (n + 9) (A ++ k :: B).length A.length) := S_sar (by omega) (S_sfi (S_srr (by omega) S))
  have ja2 : ∀ a j, z_ai (j_tk M (n + 8) (n + 9) (A ++ k :: B).length A.length) a j = z_ai M a j := fun _ _ => rfl
  generalize j_tk M (n + 8) (n + 9) (A ++ k :: B).length A.length = M' at *
  have l2 : ∀ p, p < 2 → p = 0 ∨ p = 1 := fun p hp => by omega
  obtain ⟨m, g1, g5⟩ := C.2.2.2.2 A.length k dl_mid
  refine ⟨m, g1, ?_, S2, js.congr (fun t ht => fi (by revert ht; revert t; decide)) (fun _ _ => rfl), ja.congr (fun _ _ _ _ => ja2 _ _) (fun _ _ => rfl), X.congr (fun q hq => fi (by revert hq; revert q; decide)) (fun _ _ => rfl) (fun _ _ => rfl), P.congr H (zn (by omega)) rfl (fun _ _ => rfl), fun p hp => (Q p hp).congr H.m (zn (by omega)) (zn (by omega)) (fi (by omega)) rfl rfl (fun _ _ => rfl) (Nat.le_refl _) (fun _ _ _ _ => rfl), T.congr H.m (zn (by omega)) (zn (by omega)) (fi (by omega)) rfl (Nat.le_refl _) (Nat.le_refl _) (fun _ _ _ _ => rfl) (fun _ _ _ _ => rfl), ⟨fl, by have := C.2.1; rw [dl_len] at this; omega, fun j hj => C.2.2.1 j ?_, C.2.2.2.1, fun i j e => ?_⟩⟩
  · exact g5.congr H.m C.2.2.2.1 (Nat.le_refl _) (fun _ _ _ _ => rfl) (fun _ _ => rfl)
  · rcases List.mem_append.mp hj with h | h
    · exact List.mem_append.mpr (Or.inl h)
    · exact List.mem_append.mpr (Or.inr (List.mem_cons_of_mem _ h))
  · have hi : i < (A ++ B).length := by
      by_cases c : i < (A ++ B).length
      · exact c
      · rw [List.getElem?_eq_none (by omega)] at e; exact absurd e (by simp)
    rw [dl_at (k := k)] at e
    obtain ⟨m', g1', g5'⟩ := C.2.2.2.2 _ j e
    exact ⟨m', by rw [zj hi]; exact g1', g5'.congr H.m C.2.2.2.1 (Nat.le_refl _) (fun _ _ _ _ => rfl) (fun _ _ => rfl)⟩
end JTL
