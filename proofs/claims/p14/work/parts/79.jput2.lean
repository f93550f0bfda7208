/-! ===== THE LIKENESS: packets' fields; a message is put on a path to the server ===== -/
section JPK
variable {n : Nat} {M M0 M1 M2 : z_Mem} {r r1 : q_R} {TL CL : List Nat} {t s q z : Nat}
theorem JJ.st {A : Type} {a : A} {f : A → z_Mem} (h : ∀ b, b = a → JJ n (f b) r TL CL) : JJ n (q_st a f) r TL CL := h a rfl
theorem JJ.st2 {A : Type} {a : A × z_Mem} {f : A → z_Mem → z_Mem} {x : A} (h : a = (x, M)) (k : JJ n (f x M) r TL CL) : JJ n (q_st2 a f) r TL CL := by rw [h]; exact k
theorem JJ.cm (h : M1 = M) (k : JJ n M r TL CL) : JJ n M1 r TL CL := by rw [h]; exact k
theorem JJ.cr (h : r1 = r) (k : JJ n M r TL CL) : JJ n M r1 TL CL := by rw [h]; exact k
theorem JJ.pkt (J : JJ n M r TL CL) {i : Nat} (hi : i < jN (r.1 1606)) : ∃ pk, z_ar M (n + 38) i = some pk ∧ n + 108 ≤ pk ∧ pk < z_sz M ∧ z_fi M 768 pk = nI i ∧ ∀ t, t ∈ jPT → z_fi M t.1 pk = r.2 t.2 i := J.2.2.2.2.1 i hi
def jokP (g x : Nat) : Bool := decide (768 < g ∧ g < 1000) && (decide (61 < x) && (jPT.all (fun t => t == (g, x) || (!(t.1 == g) && !(t.2 == x))) && (jXRA.all (fun y => !(y == x)) && (jT.all (fun t => !(t.1 == g) && !(t.2.2.1 == x)) && (jR.all (fun t => !(t.2.2.1 == x)) && jXX.all (fun t => !(t.1 == g)))))))
theorem j_bne {a b : Nat} (h : (!(a == b)) = true) : a ≠ b := fun e => by subst e; simp at h
/-- a field of a packet, and its cell -/
theorem JJ.pk (J : JJ n M r TL CL) {i pk g x : Nat} {v : Int32} (hi : i < jN (r.1 1606)) (hb : jN (r.1 1606) < 2147483648) (e : z_ar M (n + 38) i = some pk) (h : jokP g x = true) : JJ n (z_sfi M g pk v) (ua r x i v) TL CL := by
  unfold jokP at h
  simp only [Bool.and_eq_true, Bool.or_eq_true, decide_eq_true_eq, List.all_eq_true] at h
  obtain ⟨g0, x0, h1, h2, h3, h4, h5⟩ := h
  obtain ⟨S, js, ja, X, P, Q, T, C⟩ := J
  obtain ⟨pk0, a1, a2, a3, a4, a5⟩ := P i hi
  rw [e] at a1
  cases a1
  have en : ∀ {k a : Nat}, k ≠ g → z_fi (z_sfi M g pk v) k a = z_fi M k a := fun hk => by rw [zq_fi_sfi, if_neg hk]
  have hu : ∀ {y : Nat}, y ≠ x → (ua r x i v).2 y = r.2 y := fun hy => ua_n hy
  have H : hM n M (z_sfi M g pk v) := ⟨Nat.le_refl _, fun a _ _ => ⟨fun k hk => en (by omega), fun _ => rfl, fun _ => rfl⟩⟩
  refine ⟨S_sfi S, js.congr (fun t ht => en (j_bne (h3 t ht).1)) (fun t ht => ?_), ja.congr (fun _ _ _ _ => rfl) (fun t ht => hu (j_bne (h4 t ht))), X.congr (fun q hq => en (j_bne (h5 q hq))) (fun _ _ => rfl) (fun y hy => hu (j_bne (h2 y hy))), fun k hk => ?_, fun p hp => (Q p hp).congr H rfl rfl (en (by omega)) rfl (by rw [hu (by omega)]) (fun _ _ => by rw [hu (by omega)]) (Nat.le_refl _) (fun y _ hy _ => by rw [hu (by simp only [List.mem_cons, List.not_mem_nil, or_false] at hy; omega)]), T.congr H rfl rfl (en (by omega)) rfl (Nat.le_refl _) (Nat.le_refl _) (fun y _ hy _ => by rw [hu (by simp only [List.mem_cons, List.not_mem_nil, or_false] at hy; omega)]) (fun y _ hy _ => by rw [hu (by simp only [List.mem_cons, List.not_mem_nil, or_false] at hy; omega)]), C.congr H rfl (en (by omega)) (Nat.le_refl _) (by rw [hu (by omega)]; exact C.2.2.2.1) (Nat.le_refl _) (fun _ _ _ _ => by rw [hu (by omega)]) (fun y _ hy _ => by rw [hu (by simp only [List.mem_cons, List.not_mem_nil, or_false] at hy; omega)])⟩
  · unfold j_loc
    by_cases hx : t.2.2.1 = 0
    · rw [if_pos hx, if_pos hx]; rfl
    · rw [if_neg hx, if_neg hx, hu (j_bne (h3 t ht).2)]
  · have hk : k < jN (r.1 1606) := hk
    obtain ⟨pk1, b1, b2, b3, b4, b5⟩ := P k hk
    refine ⟨pk1, b1, b2, b3, (en (by omega)).trans b4, fun t ht => ?_⟩
    by_cases hik : k = i
    · subst hik
      rw [e] at b1
      cases b1
      rcases h1 t ht with h1 | ⟨h1, h6⟩
      · have := eq_of_beq h1
        subst this
        show z_fi (z_sfi M g pk v) g pk = (ua r x k v).2 x k
        rw [ua_e, zq_fi_sfi, if_pos rfl, if_pos rfl]
      · rw [en (j_bne h1), hu (j_bne h6)]; exact b5 t ht
    · have hne : pk1 ≠ pk := fun e9 => hik (by
        rw [e9, a4] at b4
        exact (jI_inj (by omega) (by omega) b4).symm)
      rcases h1 t ht with h1 | ⟨h1, h6⟩
      · have := eq_of_beq h1
        subst this
        show z_fi (z_sfi M g pk v) g pk1 = (ua r x i v).2 x k
        rw [ua_i hik, zq_fi_sfi, if_pos rfl, if_neg hne]; exact b5 (g, x) ht
      · rw [en (j_bne h1), hu (j_bne h6)]; exact b5 t ht
/-- a field that is in no group, of any object -/
theorem JJ.ff (J : JJ n M r TL CL) {a : Nat} {v : Int32} : JJ n (z_sfi M 779 a v) r TL CL := by
  obtain ⟨S, js, ja, X, P, Q, T, C⟩ := J
  have en : ∀ {k b : Nat}, k ≠ 779 → z_fi (z_sfi M 779 a v) k b = z_fi M k b := fun hk => by rw [zq_fi_sfi, if_neg hk]
  have H : hM n M (z_sfi M 779 a v) := ⟨Nat.le_refl _, fun b _ _ => ⟨fun k hk => en (by omega), fun _ => rfl, fun _ => rfl⟩⟩
  refine ⟨S_sfi S, js.congr (fun t ht => en (by revert ht; revert t; decide)) (fun _ _ => rfl), ja, X.congr (fun q hq => en (by revert hq; revert q; decide)) (fun _ _ => rfl) (fun _ _ => rfl), fun k hk => ?_, fun p hp => (Q p hp).congr H rfl rfl (en (by decide)) rfl rfl (fun _ _ => rfl) (Nat.le_refl _) (fun _ _ _ _ => rfl), T.congr H rfl rfl (en (by decide)) rfl (Nat.le_refl _) (Nat.le_refl _) (fun _ _ _ _ => rfl) (fun _ _ _ _ => rfl), C.congr H rfl (en (by decide)) (Nat.le_refl _) C.2.2.2.1 (Nat.le_refl _) (fun _ _ _ _ => rfl) (fun _ _ _ _ => rfl)⟩
  obtain ⟨pk1, b1, b2, b3, b4, b5⟩ := P k hk
  exact ⟨pk1, b1, b2, b3, (en (by decide)).trans b4, fun t ht => by rw [en (by revert ht; revert t; decide)]; exact b5 t ht⟩
theorem ri_pk (I : rf_I t s q z r.1 r.2) : jN (r.1 1606) ≤ 400 := by
  have h := ri_F I (g := 1606) (lo := 0) (hi := 400) (by decide)
  have := jN_toInt h.1
  omega
/-- the lane's append -/
theorem j_appF (J : JJ n M r TL CL) (I : rf_I (t + 1) s q z r.1 r.2) {p : Nat} (hp : p < 2) {m : Nat} (m0 : n + 108 ≤ m) (m1 : m < z_sz M) {sI i : Int32} (hk : j_kS n M r m sI i) (h5 : z_fi M 513 m = nI p) (h4 : z_fi M 514 m = 0) (hb : j_qb n M r m) (hl : (r.2 51 p).toInt < 30) : JJ n (cF_X3_append (n + (2 + 2 * p)) (some m) M) (qF_puts_111 (nI p) sI i r) TL CL := by
  have L := j_lane J hp
  obtain ⟨h1, h2, -, -⟩ := J.2.2.2.2.2.1 p hp
  have Q0 := ri_A I (x := 51) (lo := 0) (hi := 30) (by decide) p
  have e9 := L.2.2.2.2.2.2.2.2.1
  rw [cE_X3_append, e9, if_neg (fun h => absurd (i_le h (show (30 : Int32).toInt = 30 from rfl) rfl) (by omega)), j_lfr J.1 hp]
  refine JJ.st (fun b hb1 => ?_)
  have hb1 : b = n + (3 + 2 * p) := hb1
  subst hb1
  refine JJ.st (fun M8 e8 => JJ.st (fun M10 e10 => ?_))
  refine j_app J I hp m0 m1 hk h5 h4 hb hl (M1 := M8) ?_ ?_
  · rw [e8]
    have := j_ring h1 h2 Q0.1 Q0.2
    rw [show ((z_fi M 394 (n + (2 + 2 * p)) + r.2 51 p - (z_fi M 394 (n + (2 + 2 * p)) + r.2 51 p) / 30 * 30 : Int32)).toNatClampNeg = _ from this]
  · rw [e10, e8]
    show z_sfi _ 395 _ (z_fi M 395 (n + (2 + 2 * p)) + 1) = _
    rw [e9]
end JPK
