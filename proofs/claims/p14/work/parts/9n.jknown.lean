/-! ===== THE LIKENESS: what is known of a packet that is not in flight ===== -/
section JKN
variable {n : Nat} {M M0 M1 M2 : z_Mem} {r r1 : q_R} {TL CL : List Nat} {t s q z : Nat} {d : Int} {f g : Nat → Int32}
theorem JJ.known (J : JJ n M r TL CL) {i pk : Nat} {v : Int32} (hi : i < jN (r.1 1606)) (hb : jN (r.1 1606) < 1000) (e : z_ar M (n + 38) i = some pk) (h76 : ¬ r.2 76 i = 0) (hv : ¬ v = 0) (eM : M1 = z_sfi M 778 pk v) : JJ n M1 (ua r 76 i v) TL CL := by
  subst eM
  obtain ⟨S, js, ja, X, P, Q, T, C⟩ := J
  obtain ⟨pk0, a1, a2, a3, a4, a5⟩ := P i hi
  rw [e] at a1
  cases a1
  have en : ∀ {k a : Nat}, k ≠ 778 → z_fi (z_sfi M 778 pk v) k a = z_fi M k a := fun h1 => by rw [zq_fi_sfi, if_neg h1]
  have hu : ∀ {y : Nat}, y ≠ 76 → (ua r 76 i v).2 y = r.2 y := fun hy => ua_n hy
  have H : hM n M (z_sfi M 778 pk v) := ⟨Nat.le_refl _, fun a _ _ => ⟨fun k hk => en (by omega), fun _ => rfl, fun _ => rfl⟩⟩
  refine ⟨S_sfi S, js.congr (fun t ht => en (by revert ht; revert t; decide)) (fun t ht => ?_), ja.congr (fun _ _ _ _ => rfl) (fun t ht => hu (by revert ht; revert t; decide)), ?_, fun k hk => ?_, fun p hp => (Q p hp).congr H rfl rfl (en (by omega)) rfl (by rw [hu (by omega)]) (fun _ _ => by rw [hu (by omega)]) (Nat.le_refl _) (fun y _ hy _ => by rw [hu (by simp only [List.mem_cons, List.not_mem_nil, or_false] at hy; omega)]), T.congr H rfl rfl (en (by omega)) rfl (Nat.le_refl _) (Nat.le_refl _) (fun y _ hy _ => by rw [hu (by simp only [List.mem_cons, List.not_mem_nil, or_false] at hy; omega)]) (fun y _ hy _ => by rw [hu (by simp only [List.mem_cons, List.not_mem_nil, or_false] at hy; omega)]), C.congr H rfl (en (by omega)) (Nat.le_refl _) (by rw [hu (by omega)]; exact C.2.2.2.1) (Nat.le_refl _) (fun _ _ _ _ => by rw [hu (by omega)]) (fun y _ hy _ => by rw [hu (by simp only [List.mem_cons, List.not_mem_nil, or_false] at hy; omega)])⟩
  · have h1 : t.2.2.1 ≠ 76 := by revert ht; revert t; decide
    unfold j_loc
    by_cases hx : t.2.2.1 = 0
    · rw [if_pos hx, if_pos hx]; rfl
    · rw [if_neg hx, if_neg hx, hu h1]
  · obtain ⟨y1, y2, y3, y4, y5, y6, y7, y8, y9, y10⟩ := X
    have l1 : ∀ s', j_lost (ua r 76 i v) s' = j_lost r s' := fun s' => by unfold j_lost; rw [hu (by decide), hu (by decide), hu (by decide)]
    refine ⟨fun p hp => ?_, ?_, ?_, fun s' hs' => ?_, fun s' hs' => ?_, fun p hp => ?_, ?_, fun p hp => ?_, fun p hp h => ?_, ?_⟩
    · rw [en (by omega), hu (by decide)]; exact y1 p hp
    · rw [en (by omega)]; exact y2
    · rw [en (by omega)]; exact y3
    · rw [en (by omega), l1]; exact y4 s' hs'
    · rw [en (by omega), hu (by decide)]; exact y5 s' hs'
    · rw [en (by omega)]
      refine (y6 p hp).trans (congrArg nI (rf_c_eq _ (fun j _ => ?_)).symm)
      by_cases hj : j = i
      · subst hj
        unfold j_fl
        rw [ua_e, decide_eq_false (fun h => hv h.2), decide_eq_false (fun h => h76 h.2)]
      · unfold j_fl; rw [ua_i hj, hu (by decide)]
    · rw [en (by omega)]
      refine ⟨y7.1, y7.2.1, fun j hj => ?_⟩
      by_cases c : j = i
      · subst c; rw [ua_e]; exact hv
      · rw [ua_i c]; exact y7.2.2 j hj
    · rw [en (by omega), hu (by decide)]; exact y8 p hp
    · rw [hu (by decide)] at h
      rw [en (by omega), en (by omega), hu (by decide), hu (by decide)]
      exact y9 p hp h
    · rw [en (by omega)]; exact y10
  · have hk : k < jN (r.1 1606) := hk
    obtain ⟨pk1, b1, b2, b3, b4, b5⟩ := P k hk
    refine ⟨pk1, b1, b2, b3, (en (by omega)).trans b4, fun t ht => ?_⟩
    have hR : ∀ t, t ∈ jPT → t = (778, 76) ∨ (t.1 ≠ 778 ∧ t.2 ≠ 76) := by decide
    rcases hR t ht with rfl | ⟨d1, d3⟩
    · show z_fi (z_sfi M 778 pk v) 778 pk1 = (ua r 76 i v).2 76 k
      rw [zq_fi_sfi, if_pos rfl]
      by_cases hik : k = i
      · subst hik
        rw [e] at b1
        cases b1
        rw [if_pos rfl, ua_e]
      · have hne : pk1 ≠ pk := fun e9 => hik (by
          rw [e9, a4] at b4
          exact (jI_inj (by omega) (by omega) b4).symm)
        rw [if_neg hne, ua_i hik]; exact b5 (778, 76) ht
    · rw [en d1, hu d3]; exact b5 t ht
end JKN
