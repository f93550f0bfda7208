/-! ===== THE LIKENESS: the server acknowledges, whole ===== -/
section JAW
variable {n : Nat} {M M0 M1 M2 : z_Mem} {r r1 : q_R} {TL CL : List Nat} {t s q z : Nat} {d : Int} {f g : Nat → Int32}
theorem hiT_congr : ∀ b, (∀ i, i < b → f i = g i) → hiT f b = hiT g b ∧ loT f b = loT g b := by
  intro b
  induction b with
  | zero => intro _; exact ⟨rfl, rfl⟩
  | succ b ih =>
    intro h
    obtain ⟨i1, i2⟩ := ih (fun i hi => h i (by omega))
    have e := h b (by omega)
    constructor
    · show (if f b = 0 then hiT f b else b + 1) = (if g b = 0 then hiT g b else b + 1); rw [e, i1]
    · show (if f b = 0 then b + 1 else loT f b) = (if g b = 0 then b + 1 else loT g b); rw [e, i2]
theorem runs_congr : ∀ c b, (∀ i, i < b → f i = g i) → runs f c b = runs g c b := by
  intro c
  induction c with
  | zero => intro b _; rfl
  | succ c ih =>
    intro b h
    obtain ⟨i1, i2⟩ := hiT_congr b h
    have hle := hiT_le (f := g) b
    have hll := loT_le (f := g) (hiT g b)
    have i3 := (hiT_congr (f := f) (g := g) (hiT g b) (fun i hi => h i (by omega))).2
    show (if hiT f b = 0 then [] else (loT f (hiT f b), hiT f b - 1) :: runs f c (loT f (hiT f b))) = (if hiT g b = 0 then [] else (loT g (hiT g b), hiT g b - 1) :: runs g c (loT g (hiT g b)))
    rw [i1, i3, ih (loT g (hiT g b)) (fun i hi => h i (by omega))]
theorem hiT_all2 {b0 : Nat} : ∀ b, b0 ≤ b → (∀ k, b0 ≤ k → k < b → f k = 0) → hiT f b = hiT f b0 := by
  intro b
  induction b with
  | zero => intro h _; have : b0 = 0 := by omega
            rw [this]
  | succ b ih =>
    intro hb h
    by_cases e : b + 1 = b0
    · rw [e]
    · rw [hiT_s (h b (by omega) (by omega))]; exact ih (by omega) (fun k h0 h1 => h k h0 (by omega))
/-- what the server has taken -/
def jTK (r : q_R) : Prop := (∀ i, i < 400 → r.2 63 i = 0 ∨ r.2 63 i = 1) ∧ (-1 ≤ (r.1 1572).toInt ∧ (r.1 1572).toInt ≤ 399) ∧ (∀ k : Nat, (r.1 1572).toInt < k → k < 400 → r.2 63 k = 0)
/-- a new row of what was told -/
theorem JJ.told (J : JJ n M r TL CL) (h0 : 0 ≤ (r.1 1561).toInt) (h00 : (r.1 1561).toInt < 3600) (h1 : ∀ g, g ≠ 1561 → r1.1 g = r.1 g) (h2 : r1.1 1561 = r.1 1561 + 1) (h3 : ∀ x, x ≠ 61 → r1.2 x = r.2 x) (h4 : ∀ i, i < 15 * jN (r.1 1561) → r1.2 61 i = r.2 61 i) (h5 : (r1.2 61 (15 * jN (r.1 1561))).toInt ≤ 4) : JJ n M r1 TL CL := by
  obtain ⟨S, js, ja, X, P, Q, T, C⟩ := J
  have e1 : jN (r1.1 1561) = jN (r.1 1561) + 1 := by rw [h2, jN_add1 h0 (by omega)]
  refine ⟨S, js.congr (fun _ _ => rfl) (fun t ht => ?_), ja.congr (fun _ _ _ _ => rfl) (fun t ht => h3 _ (by revert ht; revert t; decide)), X.congr (fun _ _ => rfl) (fun k hk => h1 k (by revert hk; revert k; decide)) (fun x hx => h3 x (by revert hx; revert x; decide)), P.congr hF_rf rfl (h1 _ (by decide)) (fun t ht => h3 _ (by revert ht; revert t; decide)), fun p hp => (Q p hp).congr hF_rf.m rfl rfl rfl (h1 _ (by decide)) (by rw [h3 51 (by decide)]) (fun k _ => by rw [h3 50 (by decide)]) (by rw [h1 _ (by decide)]; exact Nat.le_refl _) (fun x _ hx _ => by rw [h3 x (by revert hx; revert x; decide)]), T.congr hF_rf.m rfl rfl rfl (h1 _ (by decide)) (by rw [h1 _ (by decide)]; exact Nat.le_refl _) (by rw [h1 _ (by decide)]; exact Nat.le_refl _) (fun x _ hx _ => by rw [h3 x (by revert hx; revert x; decide)]) (fun x _ hx _ => by rw [h3 x (by revert hx; revert x; decide)]), C.congr hF_rf.m rfl rfl (by rw [h1 _ (by decide)]; exact Nat.le_refl _) (fun t ht => ?_) (by rw [e1]; omega) (fun t i ht hi => h4 _ (by omega)) (fun x _ hx _ => by rw [h3 x (by revert hx; revert x; decide)])⟩
  · have h6 : t.2.2.1 ≠ 61 := by revert ht; revert t; decide
    have h7 : ¬ (t.2.2.1 = 0 ∧ t.2.2.2 = 1561) := (show ∀ t, t ∈ jT → ¬ (t.2.2.1 = 0 ∧ t.2.2.2 = 1561) from by decide) t ht
    unfold j_loc
    by_cases c : t.2.2.1 = 0
    · rw [if_pos c, if_pos c]; exact j_fvc (fun g hg => h1 g (by revert hg; revert g; decide)) (h1 _ (fun e => h7 ⟨c, e⟩))
    · rw [if_neg c, if_neg c, h3 _ h6]
  · rw [e1] at ht
    by_cases c : t = jN (r.1 1561)
    · rw [c]; exact h5
    · rw [h4 _ (by omega)]; exact C.2.2.2.1 t (by omega)
theorem q_ackR61 {T : Nat} {c : Int32} (r : q_R) (i : Nat) : (q_ackR T c r).2 61 i = if i = T + 14 then 100 + r.2 65 0 + r.2 65 1 + r.2 65 2 + r.2 65 3 else if i = T + 13 then r.2 65 3 + 40 else if i = T + 12 then r.2 65 2 + 40 else if i = T + 11 then r.2 65 1 + 40 else if i = T + 10 then r.2 65 0 + 40 else if i = T + 9 then r.1 1576 else if i = T then c else r.2 61 i := by
  unfold q_ackR q_row4
  rw [uf2, uf2, ua_n (by decide), uf2]
  simp only [ua2, ↓reduceIte]
  rfl
theorem j_ackS (J : JJ n M r TL (pC d r)) (hs : r.1 1562 = 1) {p : Nat} (hp : p < 2) (hdp : r.1 1575 = nI p) (h0 : 0 ≤ (r.1 1561).toInt) (h1 : (r.1 1561).toInt < 3600) (a0 : 0 ≤ (r.1 1559).toInt) (a1 : (r.1 1559).toInt < 2048) (K : jTK r) (hd : d ≤ (r.1 1536 + r.2 41 p).toInt) : JJ n (cF_X8_acknowledge (n + 28) M) (qF_acknowledges r) TL (pC d (qF_acknowledges r)) := by
  have hz := J.1.2.2.2
  have et := jN_toInt h0
  obtain ⟨k1, k2, k3⟩ := K
  rw [q_ackF r h0 h1, hdp, cE_X8_acknowledge, js_1026_28 J, if_pos hs, js_1038_28 J, hdp, if_neg (by
    intro e
    have := congrArg Int32.toInt e
    rw [jI_t (by omega)] at this
    exact absurd this (by rw [show (-1 : Int32).toInt = -1 from rfl]; omega))]
  obtain ⟨g1, g2, g3, g4⟩ := q_wr1 (T := 15 * jN (r.1 1561)) (runs (r.2 63) 4 400) 0 r
  have hlen := runs_len (f := r.2 63) 4 400
  generalize hR : runs (r.2 63) 4 400 = R at *
  generalize hT : 15 * jN (r.1 1561) = T at *
  -- the cells behind
  have r61 := q_ackR61 (T := T) (c := nI R.length) (q_wr T 0 R r)
  have r1561 : (q_ackR T (nI R.length) (q_wr T 0 R r)).1 1561 = r.1 1561 + 1 := by
    unfold q_ackR; rw [uf_n (by decide), uf_n (by decide)]; show (q_wr T 0 R r).1 1561 + 1 = _; rw [g1]
  have rA : ∀ x, x ≠ 61 → x ≠ 106 → (q_ackR T (nI R.length) (q_wr T 0 R r)).2 x = r.2 x := fun x hx hx2 => by
    unfold q_ackR q_row4
    rw [uf2, uf2, ua_n hx2, uf2, ua_n hx, ua_n hx, ua_n hx, ua_n hx, ua_n hx, ua_n hx, ua_n hx, g2 x hx]
  have rF : ∀ k, k ≠ 1561 → k ≠ 1573 → k ≠ 1574 → (q_ackR T (nI R.length) (q_wr T 0 R r)).1 k = r.1 k := fun k a b c => by
    unfold q_ackR; rw [uf_n c, uf_n b]; show (uf _ 1561 _).1 k = _; rw [uf_n a]; show (q_wr T 0 R r).1 k = _; rw [g1]
  have hpC : pC d (q_ackR T (nI R.length) (q_wr T 0 R r)) = pC d r := pC_congr (rF _ (by decide) (by decide) (by decide)) (fun k _ => by rw [rA 60 (by decide) (by decide)])
  -- the class's three fields
  refine JJ.st (fun M6 e6 => JJ.st (fun M7 e7 => JJ.st (fun M8 e8 => ?_)))
  have J8 : JJ n M8 (q_ackR T (nI R.length) (q_wr T 0 R r)) TL (pC d (q_ackR T (nI R.length) (q_wr T 0 R r))) := by
    rw [hpC]
    have Jt : JJ n M (uf (ua (q_row4 T (ua (ua (q_wr T 0 R r) 61 T (nI R.length)) 61 (T + 9) ((q_wr T 0 R r).1 1576))) 61 (T + 14) (100 + (q_wr T 0 R r).2 65 0 + (q_wr T 0 R r).2 65 1 + (q_wr T 0 R r).2 65 2 + (q_wr T 0 R r).2 65 3)) 1561 ((q_wr T 0 R r).1 1561 + 1)) TL (pC d r) := by
      refine J.told h0 h1 (fun k hk => ?_) ?_ (fun x hx => ?_) (fun i hi => ?_) ?_
      · rw [uf_n hk]; show (q_wr T 0 R r).1 k = _; rw [g1]
      · rw [uf_e, g1]
      · unfold q_row4
        rw [uf2, ua_n hx, ua_n hx, ua_n hx, ua_n hx, ua_n hx, ua_n hx, ua_n hx, g2 x hx]
      · have := r61 i
        unfold q_ackR at this
        rw [uf2, uf2, ua_n (by decide)] at this
        rw [this, if_neg (by omega), if_neg (by omega), if_neg (by omega), if_neg (by omega), if_neg (by omega), if_neg (by omega), if_neg (by omega), g3 i (by omega)]
      · have := r61 T
        unfold q_ackR at this
        rw [uf2, uf2, ua_n (by decide)] at this
        rw [hT, this, if_neg (by omega), if_neg (by omega), if_neg (by omega), if_neg (by omega), if_neg (by omega), if_neg (by omega), if_pos rfl, jI_t (by omega)]
        omega
    have J6 := (Jt.fc e6 (by decide)).ra (x := 106) (j := 4) (v := (q_wr T 0 R r).2 106 4 + 1) (by decide)
    exact (J6.sf (j := 1573) e7 (by decide)).sf (j := 1574) e8 (by decide)
  have S8 := J8.1
  have hz8 := S8.2.2.2
  refine JJ.st (fun M10 e10 => JJ.st (fun M11 e11 => ?_))
  have E11 : jE n M8 M11 := by
    rw [e11, cE_X4_init]
    refine jE_sfi (M1 := z_sfi M10 517 (z_sz M8) (-1)) (jE_sfi (M1 := M10) ?_ S8 (Nat.le_refl _) rfl) S8 (Nat.le_refl _) (g := 512) (a := z_sz M8) (v := 4) rfl
    rw [e10]; exact jE_new S8
  have z11 : z_sz M11 = z_sz M8 + 1 := by rw [e11, cE_X4_init, e10]; rfl
  have k11 : z_fi M11 512 (z_sz M8) = 4 := by
    rw [e11, cE_X4_init]
    show z_fi (z_sfi (z_sfi M10 517 (z_sz M8) (-1)) 512 (z_sz M8) 4) 512 (z_sz M8) = 4
    rw [zq_fi_sfi, if_pos rfl, if_pos rfl]
  have J11 := J8.ext E11
  obtain ⟨b, hb, hgb⟩ : ∃ b : Nat, b ≤ 400 ∧ (r.1 1572).toInt + 1 = b := ⟨((r.1 1572).toInt + 1).toNat, by omega, by omega⟩
  have eg : z_fi M11 1034 (n + 28) = nI b - 1 := by
    rw [js_1034_28 J11, rF 1572 (by decide) (by decide) (by decide)]
    refine Int32.toInt_inj.mp ?_
    rw [i_subE (jI_t (k := b) (by omega)) (show (1 : Int32).toInt = 1 from rfl) (by omega) (by omega)]
    omega
  have er : ∀ i, i < 400 → z_ai M11 (n + 30) i = r.2 63 i := fun i hi => by
    rw [ja_30 J11 hi, rA 63 (by decide) (by decide), Nat.zero_add]
  obtain ⟨M12, c1, c2, c3, c4, c5, c6, c7, c8, c9, c10, c11⟩ := c_ackM E11.2.1 (fun i hi => by rw [er i hi]; exact k1 i hi) hb eg
  have eR : runs (z_ai M11 (n + 30)) 4 b = R := by
    rw [runs_congr 4 b (g := r.2 63) (fun i hi => er i (by omega)), ← hR]
    exact runs_hi (hiT_all2 (f := r.2 63) (b0 := b) 400 hb (fun k h2 h3 => k3 k (by omega) h3)).symm
  rw [eR] at c7 c8
  rw [z11] at c1 c3 c4 c5 c6 c7 c8 c9 c10 c11
  refine JJ.st2 c1 (JJ.st (fun M13 e13 => ?_))
  have E12 : jE n M8 M12 := jE_tr E11 c2
  have E13 : jE n M8 M13 := jE_sfr E12 S8 (Nat.le_refl _) (by decide +kernel) e13
  have f13 : ∀ g a, z_fi M13 g a = z_fi M12 g a := fun _ _ => by rw [e13]; rfl
  have i13 : ∀ a j, z_ai M13 a j = z_ai M12 a j := fun _ _ => by rw [e13]; rfl
  have r13 : ∀ g a, g ≠ 516 → z_fr M13 g a = z_fr M12 g a := fun g a hg => by rw [e13, zq_fr_sfr, if_neg hg]
  have z13 : z_sz M13 = z_sz M8 + 1 + 4 := by rw [e13]; exact c3
  have J13 := J8.ext E13
  rw [s_1024_28 E13.2.1]
  refine JJ.st (fun a17 e17 => ?_)
  have e17 : a17 = n + 1 := e17
  subst e17
  refine JJ.st (fun M16 e16 => ?_)
  rw [e16, js_1038_28 J13, rF 1575 (by decide) (by decide) (by decide), hdp]
  have c12 : ∀ s, s < 4 → z_fi M11 1158 (n + (12 + 4 * s)) = r.2 65 s := fun s hs => by
    have l4 : s = 0 ∨ s = 1 ∨ s = 2 ∨ s = 3 := by omega
    rcases l4 with rfl | rfl | rfl | rfl
    · rw [js_1158_12 J11, rA 65 (by decide) (by decide)]
    · rw [js_1158_16 J11, rA 65 (by decide) (by decide)]
    · rw [js_1158_20 J11, rA 65 (by decide) (by decide)]
    · rw [js_1158_24 J11, rA 65 (by decide) (by decide)]
  refine j_toC J8 E13 hp (Nat.le_refl _) (by omega) (Or.inr (Or.inr (Or.inl ⟨rfl, ?_, ?_, z_sz M8 + 1, ?_, ?_⟩))) (by rw [rF _ (by decide) (by decide) (by decide)]; exact a0) (by rw [rF _ (by decide) (by decide) (by decide)]; exact a1) (by rw [rF _ (by decide) (by decide) (by decide), rA 41 (by decide) (by decide)]; exact hd)
  · rw [f13, (c2.1.2 _ (by omega) (by omega)).1]; exact k11
  · rw [r1561, jN_add1 h0 (by omega)]; omega
  · rw [e13, zq_fr_sfr, if_pos rfl, if_pos rfl]
  · refine ⟨by omega, by omega, z_sz M8 + 1 + 1, z_sz M8 + 1 + 2, z_sz M8 + 1 + 3, by rw [r13 _ _ (by decide)]; exact c4, by rw [r13 _ _ (by decide)]; exact c5, by rw [r13 _ _ (by decide)]; exact c6, ⟨by omega, by omega⟩, ⟨by omega, by omega⟩, ⟨by omega, by omega⟩, ?_, fun i hi => ?_, ?_, fun s hs => ?_, ?_⟩
    · rw [f13, c7, hT, r61, if_neg (by omega), if_neg (by omega), if_neg (by omega), if_neg (by omega), if_neg (by omega), if_neg (by omega), if_pos rfl]
    · rw [hT, r61, if_neg (by omega), if_neg (by omega), if_neg (by omega), if_neg (by omega), if_neg (by omega), if_neg (by omega), if_pos rfl, jN_nI (by omega)] at hi
      have hx : R[i]? = some R[i] := List.getElem?_eq_getElem hi
      obtain ⟨q1, q2⟩ := c8 i _ hx
      obtain ⟨p1, p2⟩ := g4 i _ hx
      rw [Nat.zero_add] at p1 p2
      rw [i13, i13, q1, q2, hT, r61, r61, if_neg (by omega), if_neg (by omega), if_neg (by omega), if_neg (by omega), if_neg (by omega), if_neg (by omega), if_neg (by omega), if_neg (by omega), if_neg (by omega), if_neg (by omega), if_neg (by omega), if_neg (by omega), if_neg (by omega), if_neg (by omega), p1, p2]
      exact ⟨rfl, rfl⟩
    · rw [f13, c9, js_1035_28 J11, rF 1576 (by decide) (by decide) (by decide), hT, r61, if_neg (by omega), if_neg (by omega), if_neg (by omega), if_neg (by omega), if_neg (by omega), if_pos rfl, g1]
    · rw [i13, c10 s hs, c12 s hs, hT, r61, Int32.add_comm]
      have l4 : s = 0 ∨ s = 1 ∨ s = 2 ∨ s = 3 := by omega
      rcases l4 with rfl | rfl | rfl | rfl
      · rw [if_neg (by omega), if_neg (by omega), if_neg (by omega), if_neg (by omega), if_pos rfl, g2 65 (by decide)]
      · rw [if_neg (by omega), if_neg (by omega), if_neg (by omega), if_pos rfl, g2 65 (by decide)]
      · rw [if_neg (by omega), if_neg (by omega), if_pos rfl, g2 65 (by decide)]
      · rw [if_neg (by omega), if_pos rfl, g2 65 (by decide)]
    · have d0 := c12 0 (by omega)
      have d1 := c12 1 (by omega)
      have d2 := c12 2 (by omega)
      have d3 := c12 3 (by omega)
      rw [f13, c11, hT, r61, if_pos rfl, g2 65 (by decide)]
      show 100 + (0 + z_fi M11 1158 (n + (12 + 4 * 0)) + z_fi M11 1158 (n + (12 + 4 * 1)) + z_fi M11 1158 (n + (12 + 4 * 2)) + z_fi M11 1158 (n + (12 + 4 * 3))) = _
      rw [d0, d1, d2, d3, Int32.zero_add]
      simp only [Int32.add_assoc]
end JAW
