/-! ===== THE LIKENESS: the first packet that may be in flight ===== -/
section JLW
variable {n : Nat} {M M0 M1 M2 : z_Mem} {r r1 r2 : q_R} {TL CL : List Nat} {t s q z : Nat} {d : Int} {f g : Nat → Int32}
/-- the first open one goes on -/
theorem JJ.open1 (J : JJ n M r TL CL) (hb : jN (r.1 1606) < 1000) (h : jN (z_fi M 134 (n + 31)) < jN (r.1 1606)) (h76 : ¬ r.2 76 (jN (z_fi M 134 (n + 31))) = 0) (e : M1 = z_sfi M 134 (n + 31) (z_fi M 134 (n + 31) + 1)) : JJ n M1 r TL CL := by
  subst e
  obtain ⟨S, js, ja, X, P, Q, T, C⟩ := J
  have en : ∀ {k a : Nat}, k ≠ 134 → z_fi (z_sfi M 134 (n + 31) (z_fi M 134 (n + 31) + 1)) k a = z_fi M k a := fun h1 => by rw [zq_fi_sfi, if_neg h1]
  have H : hF n M (z_sfi M 134 (n + 31) (z_fi M 134 (n + 31) + 1)) := hF_sfi (by omega)
  obtain ⟨y1, y2, y3, y4, y5, y6, y7, y8, y9, y10⟩ := X
  have h0 := y7.2.1
  have h2 := jN_toInt h0
  have ew : z_fi (z_sfi M 134 (n + 31) (z_fi M 134 (n + 31) + 1)) 134 (n + 31) = z_fi M 134 (n + 31) + 1 := by rw [zq_fi_sfi, if_pos rfl, if_pos rfl]
  have e1 : (z_fi M 134 (n + 31) + 1).toInt = (z_fi M 134 (n + 31)).toInt + 1 := i_addE rfl (show (1 : Int32).toInt = 1 from rfl) (by omega) (by omega)
  have e2 := jN_add1 h0 (by omega)
  refine ⟨S_sfi S, js.congr (fun t ht => en (by revert ht; revert t; decide)) (fun _ _ => rfl), ja, ⟨fun p hp => ?_, ?_, ?_, fun s' hs' => ?_, fun s' hs' => ?_, fun p hp => ?_, ?_, fun p hp => ?_, fun p hp h => ?_, ?_⟩, P.congr H rfl rfl (fun _ _ => rfl), fun p hp => (Q p hp).congr H.m rfl rfl (en (by decide)) rfl rfl (fun _ _ => rfl) (Nat.le_refl _) (fun _ _ _ _ => rfl), T.congr H.m rfl rfl (en (by decide)) rfl (Nat.le_refl _) (Nat.le_refl _) (fun _ _ _ _ => rfl) (fun _ _ _ _ => rfl), C.congr H.m rfl (en (by decide)) (Nat.le_refl _) C.2.2.2.1 (Nat.le_refl _) (fun _ _ _ _ => rfl) (fun _ _ _ _ => rfl)⟩
  · rw [en (by decide)]; exact y1 p hp
  · rw [en (by decide)]; exact y2
  · rw [en (by decide)]; exact y3
  · rw [en (by decide)]; exact y4 s' hs'
  · rw [en (by decide)]; exact y5 s' hs'
  · rw [en (by decide)]; exact y6 p hp
  · rw [ew]
    refine ⟨by omega, by omega, fun j hj => ?_⟩
    rw [e2] at hj
    by_cases c : j = jN (z_fi M 134 (n + 31))
    · rw [c]; exact h76
    · exact y7.2.2 j (by omega)
  · rw [en (by decide)]; exact y8 p hp
  · rw [en (by decide), en (by decide)]; exact y9 p hp h
  · rw [en (by decide)]; exact y10
end JLW
