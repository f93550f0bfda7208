/-! ===== THE LIKENESS at the law: what the reference's call leaves; a row that nothing asks ===== -/
section JP2
variable {n : Nat} {M M0 M1 M2 : z_Mem} {r r1 r2 : q_R} {TL CL : List Nat} {p1 p2 p3 p4 p5 : Int32} {t s q z c w : Nat} {D : Int}
/-- the reference's call leaves the class alone -/
theorem JJ.kc (J : JJ n M r TL CL) (K : rf_KC n M M1) : JJ n M1 r TL CL := by
  obtain ⟨k1, k2, k3, k4, k5, k6, k7, k8, k9⟩ := K
  have S1 : y_S n M1 := by
    have S := J.1
    unfold y_S at S ⊢
    rw [k1, k2, k3, k5]; exact S
  have hg : ∀ t, t ∈ jT → t.1 < 1536 := by decide
  have hr : ∀ t, t ∈ jR → t.1 < 41 := by decide
  have hx : ∀ q, q ∈ jXF → q.1 < 1536 := by decide
  have fi : ∀ g a, g < 768 + 768 → z_fi M1 g a = z_fi M g a := fun g a h => k8 g a h
  -- what lies behind the fixed objects: fields of the class only are asked
  obtain ⟨S, js, ja, X, P, Q, T, C⟩ := J
  have hj_kS : ∀ m s' i, j_kS n M r m s' i → j_kS n M1 r m s' i := fun m s' i h => by
    unfold j_kS at h ⊢
    rw [k8 512 _ (by decide), k8 517 _ (by decide), k8 518 _ (by decide), k1, k3]; exact h
  have hj_mS : ∀ m th, j_mS n M r m th → j_mS n M1 r m th := fun m th h => by
    obtain ⟨a, b, d, e⟩ := h
    exact ⟨a, by rw [k5]; exact b, by rw [k8 513 _ (by decide)]; exact d, hj_kS _ _ _ e⟩
  have hj_ack : ∀ b t, j_ack n M r b t → j_ack n M1 r b t := fun b t h => by
    obtain ⟨a1, a2, l, hh, e, e0, e1, e2, ⟨l1, l2⟩, ⟨h1, h2⟩, ⟨g1, g2⟩, f1, f2, f3, f4, f5⟩ := h
    refine ⟨a1, by rw [k5]; exact a2, l, hh, e, by rw [k1]; exact e0, by rw [k1]; exact e1, by rw [k1]; exact e2, ⟨l1, by rw [k5]; exact l2⟩, ⟨h1, by rw [k5]; exact h2⟩, ⟨g1, by rw [k5]; exact g2⟩, by rw [k8 3 _ (by decide)]; exact f1, fun i hi => ?_, by rw [k8 4 _ (by decide)]; exact f3, fun i hi => ?_, by rw [k8 5 _ (by decide)]; exact f5⟩
    · rw [k9 l i (Or.inr (by omega)), k9 hh i (Or.inr (by omega))]; exact f2 i hi
    · rw [k9 e i (Or.inr (by omega))]; exact f4 i hi
  have hj_kC : ∀ m s' i, j_kC n M r m s' i → j_kC n M1 r m s' i := fun m s' i h => by
    unfold j_kC at h ⊢
    rw [k8 512 _ (by decide), k8 519 _ (by decide), k1]
    rcases h with h | h | ⟨h1, h2, h3, b, h4, h5⟩ | h | h
    · exact Or.inl h
    · exact Or.inr (Or.inl h)
    · exact Or.inr (Or.inr (Or.inl ⟨h1, h2, h3, b, h4, hj_ack _ _ h5⟩))
    · exact Or.inr (Or.inr (Or.inr (Or.inl h)))
    · exact Or.inr (Or.inr (Or.inr (Or.inr h)))
  refine ⟨S1, fun t ht => by rw [k8 _ _ (hg t ht)]; exact js t ht, fun t ht j hj => by rw [k9 _ _ (Or.inl (by have := hr t ht; omega))]; exact ja t ht j hj, X.congr (fun q hq => k8 _ _ ((show ∀ q, q ∈ jXX → q.1 < 1536 from by decide) q hq)) (fun _ _ => rfl) (fun _ _ => rfl), fun i hi => ?_, fun p hp => ?_, ?_, ?_⟩
  · obtain ⟨pk, b1, b2, b3, b4, b5⟩ := P i hi
    exact ⟨pk, by rw [k3]; exact b1, b2, by rw [k5]; exact b3, by rw [k8 768 _ (by decide)]; exact b4, fun t ht => by rw [k8 _ _ ((show ∀ t, t ∈ jPT → t.1 < 1536 from by decide) t ht)]; exact b5 t ht⟩
  · obtain ⟨h1, h2, h3, h4⟩ := Q p hp
    refine ⟨by rw [k8 394 _ (by decide)]; exact h1, by rw [k8 394 _ (by decide)]; exact h2, fun k hk => ?_, fun a b m1 m2 => ?_⟩
    · obtain ⟨m, e, h⟩ := h3 k hk
      refine ⟨m, by rw [k3, k8 394 _ (by decide)]; exact e, ?_⟩
      rcases h with h | ⟨th, g1, g2, g3, g4, g5, g6⟩
      · exact Or.inl h
      · exact Or.inr ⟨th, g1, g2, g3, g4, hj_mS _ _ g5, by rw [k8 514 _ (by decide)]; exact g6⟩
    · rw [k3, k8 394 _ (by decide)]; exact h4 a b m1 m2
  · obtain ⟨h1, h2, h3, h4⟩ := T
    refine ⟨by rw [k8 1281 _ (by decide)]; exact h1, h2, h3, fun i k e => ?_⟩
    obtain ⟨m, g1, g2, g3, g4, g5⟩ := h4 i k e
    exact ⟨m, by rw [k3]; exact g1, by rw [k8 514 _ (by decide)]; exact g2, g3, g4, hj_mS _ _ g5⟩
  · obtain ⟨h1, h2, h3, h5, h4⟩ := C
    refine ⟨by rw [k8 1281 _ (by decide)]; exact h1, h2, h3, h5, fun i k e => ?_⟩
    obtain ⟨m, g1, a, b, d, g, f⟩ := h4 i k e
    exact ⟨m, by rw [k3]; exact g1, a, by rw [k5]; exact b, by rw [k8 513 _ (by decide)]; exact d, by rw [k8 514 _ (by decide)]; exact g, hj_kC _ _ _ f⟩
theorem jX_kc (h : jX n c M r) (K : rf_KC n M M1) : jX n c M1 r := ⟨h.1.kc K, h.2⟩
/-- the row of what was got anew -/
theorem jX_39 (h : jX n c M r) {f : Nat → Int32} : jX n c (zA M (n + 39) f) r := by
  refine ⟨?_, h.2⟩
  have J := h.1
  refine J.congr (S_zA J.1) J.2.1 (fun t ht j hj => ?_) ⟨Nat.le_refl _, fun a h0 h1 => ⟨fun _ => rfl, fun _ => rfl, fun j => ?_⟩⟩ (fun _ _ => rfl) (fun _ _ => rfl) (fun _ _ => rfl) (fun _ _ => rfl)
  · have := (show ∀ t, t ∈ jR → t.1 ≠ 39 from by decide) t ht
    rw [zA_ai, if_neg (by omega)]
    exact J.2.2.1 t ht j hj
  · rw [zA_ai, if_neg (by omega)]
end JP2
