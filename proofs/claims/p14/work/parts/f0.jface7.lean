/-! ===== THE LIKENESS at the face: read ===== -/
section JN2
variable {n : Nat} {M M0 M1 M2 : z_Mem} {r r1 r2 : q_R} {TL CL : List Nat} {p1 p2 p3 p4 p5 : Int32} {t s q z c w : Nat} {D : Int}
theorem j_65 (J : JJ n M r TL CL) {s' : Nat} (hs : s' < 4) : z_fi M 1158 (n + (12 + 4 * s')) = r.2 65 s' := by
  rcases jl4 hs with e | e | e | e
  · rw [e]; exact js_1158_12 J
  · rw [e]; exact js_1158_16 J
  · rw [e]; exact js_1158_20 J
  · rw [e]; exact js_1158_24 J
theorem q_got2 {s' g : Nat} (hs : s' < 4) (hg : g ≤ 200) (h1 : ∀ j, j < g → ¬ r.2 64 (200 * s' + j) = 0) (h2 : g < 200 → r.2 64 (200 * s' + g) = 0) : ∀ m k, k + m = g → qF_gotOf_2 (nI s') (nI k) r = (nI g, r) := by
  intro m
  induction m with
  | zero =>
    intro k hk
    have ek : k = g := by omega
    subst ek
    have hB := qE_gotOf_2 (nI s') (nI k) r
    by_cases c : k < 200
    · have e1 : (200 * nI s' + nI k).toNatClampNeg = 200 * s' + k := jN_of (by
        rw [i_addE (i_mulE (show (200 : Int32).toInt = 200 from rfl) (jI_t (show s' < 2147483648 by omega)) (by omega) (by omega)) (jI_t (by omega)) (by omega) (by omega)]
        omega)
      rw [if_neg (show ¬ (200 : Int32) ≤ nI k from fun h => absurd ((jI_le (a := 200) (b := k) (by omega) (by omega)).mp h) (by omega)), e1, if_pos (h2 c)] at hB
      exact qUr_gotOf_2 hB
    · have : k = 200 := by omega
      subst this
      rw [if_pos (show (200 : Int32) ≤ nI 200 by decide)] at hB
      exact qUr_gotOf_2 hB
  | succ m ih =>
    intro k hk
    have hB := qE_gotOf_2 (nI s') (nI k) r
    have e1 : (200 * nI s' + nI k).toNatClampNeg = 200 * s' + k := jN_of (by
      rw [i_addE (i_mulE (show (200 : Int32).toInt = 200 from rfl) (jI_t (show s' < 2147483648 by omega)) (by omega) (by omega)) (jI_t (by omega)) (by omega) (by omega)]
      omega)
    have e2 : nI k + 1 = nI (k + 1) := by rw [jI_1, jI_add (by show k + 1 < _; omega)]
    rw [if_neg (show ¬ (200 : Int32) ≤ nI k from fun h => absurd ((jI_le (a := 200) (b := k) (by omega) (by omega)).mp h) (by omega)), e1, if_neg (h1 k (by omega)), e2] at hB
    replace hB := hB.trans (q_ste rfl)
    rw [qUl_gotOf_2 hB]
    exact ih (k + 1) (by omega)
theorem nP_c2 (h : nP D c w r) : nP D (c + 1) (w + 2) r := by
  obtain ⟨h1, h2, h3, h4, ⟨k, H, a1, a2, a3, a4, a5⟩, h6⟩ := h
  exact ⟨h1, h2, h3, h4, ⟨k, H, a1, a2, a3, by omega, by omega⟩, h6.1, h6.2.1, by have := h6.2.2; omega⟩
/-- the server acknowledges by itself, both sides -/
theorem x_ack (h : jX n c M r) (I : rf_I t (s + 1) (q + 1) z r.1 r.2) (hc : c ≤ 511) (X1 : r.1 1562 = 1) (X2 : ¬ r.1 1575 = -1) : jX n (c + 1) (cF_X8_acknowledge (n + 28) M) (qF_acknowledges r) := by
  obtain ⟨t61, t59⟩ := ri_tel I
  have bn := ri_now I
  have b75 := ri_F I (g := 1575) (lo := -1) (hi := 1) (by decide)
  have N := h.2.2.1
  have hb := (nC_b N.2.2.2.2.1 I (by omega)).2.2
  have n59 := jN_toInt t59.1
  have c75 := i_ne X2 rfl (show (-1 : Int32).toInt = -1 from rfl)
  have n75 := jN_toInt (x := r.1 1575) (by omega)
  have i75 : r.1 1575 = nI (jN (r.1 1575)) := (jI_jN (by omega)).symm
  have hcl : ¬ r.1 1577 = 0 := fun e => by
    rcases (N.2.2.2.1.2.2.2.1 e).2.2 with h | h
    · rw [X1] at h; exact absurd h (by decide)
    · rw [X1] at h; exact absurd h (by decide)
  have F := q_ackFr (r := r) t61.1 t61.2
  have b41 := N.2.2.2.2.2.1.1 (jN (r.1 1575)) (by omega)
  have J1 := j_ackS h.1 X1 (p := jN (r.1 1575)) (by omega) i75 t61.1 t61.2 t59.1 (by omega) N.2.2.1.2.2.1 (by rw [i_addE (x := r.1 1536) (y := r.2 41 (jN (r.1 1575))) rfl rfl (by omega) (by omega)]; omega)
  refine ⟨?_, kP_fr F (by decide) (by decide) h.2.1, nP_ack (x := r.1 1573) (w0 := 2) (by rw [uf_id rfl]; exact nP_c2 N) (by omega) I t61.2 t59.2 (p := jN (r.1 1575)) (by omega) i75 X1 hcl, ⟨fun _ => Or.inl (q_ack74 t61.1 t61.2), fun _ => q_ack74 t61.1 t61.2, fun _ => q_ack74 t61.1 t61.2, nG_c (F.2 64 (by decide)) (F.2 65 (by decide)) h.2.2.2.2.2.2⟩⟩
  rw [F.1 1536 (by decide), show pS ((r.1 1536).toInt + 1) (qF_acknowledges r) = pS ((r.1 1536).toInt + 1) r from pS_congr (F.1 1554 (by decide)) (fun _ _ => by rw [F.2 56 (by decide)])]
  exact J1
theorem q_read0 (h : ¬ ((0 ≤ p1.toInt ∧ p1.toInt ≤ 3) ∧ (1 ≤ p2.toInt ∧ p2.toInt ≤ 200))) : ∃ v, (qF_read p1 p2 r).2 = uf r 1630 v := by
  obtain ⟨x, hx, e⟩ := q_in01 (p1 := p1) (lo := 0) (hi := 3)
  obtain ⟨y, hy, e2⟩ := q_in01 (p1 := p2) (lo := 1) (hi := 200)
  have h0 : x = 0 ∨ y = 0 := by
    by_cases hp : 0 ≤ p1.toInt ∧ p1.toInt ≤ 3
    · exact Or.inr (congrArg Prod.fst ((e2 r).symm.trans (q_T0 (fun g => h ⟨hp, g⟩))))
    · exact Or.inl (congrArg Prod.fst ((e r).symm.trans (q_S0 hp)))
  obtain ⟨v, hv⟩ := q_go0 (r := r) (a := x) (b := y) (d := 1) (h0.elim Or.inl (fun h => Or.inr (Or.inl h)))
  rw [qE_read, q_isS, q_ste2 (e r), q_ste2 (e2 r), q_ste2 hv, if_pos rfl]
  exact ⟨v, rfl⟩
theorem x_read (h : jX n c M r) (I : rf_I t (s + 1) (q + 1) z r.1 r.2) (hc : c ≤ 511) (hp : 0 ≤ p1.toInt ∧ p1.toInt ≤ 3) (h2 : 1 ≤ p2.toInt ∧ p2.toInt ≤ 200) {y : Int32} (e : cF_X8_readBytes (n + 28) (z_ar M (n + 11) (jN p1)) p2 M = (y, M1)) : jX n (c + 1) M1 (qF_read p1 p2 r).2 := by
  have n1 := jN_toInt hp.1
  have hs4 : jN p1 < 4 := by omega
  have i1 : p1 = nI (jN p1) := (jI_jN hp.1).symm
  have h0 := jX_1630 h (v := 0)
  have I0 : rf_I t (s + 1) (q + 1) z (uf r 1630 0).1 (uf r 1630 0).2 := rI_1630 I
  rw [qE_read, q_isS, q_ste2 (q_S1 hp), q_ste2 (q_T1 h2), q_ste2 (q_go1 (by decide) (by decide) (by decide)), if_neg (by decide)]
  generalize uf r 1630 0 = R at h0 I0 ⊢
  obtain ⟨g, g1, g2, g3, g4⟩ := h0.1.2.2.2.1.2.2.2.2.1 (jN p1) hs4
  obtain ⟨k1, k2, k3⟩ := h0.2.2.2.2.2.2 (jN p1) hs4
  have n65 := jN_toInt k1
  have h65 := j_65 h0.1 hs4
  have hle : jN (R.2 65 (jN p1)) ≤ g := by
    by_cases c : jN (R.2 65 (jN p1)) ≤ g
    · exact c
    · exact absurd (g4 (by omega)) (k3 g (by omega))
  have hgot : qF_gotOf p1 R = (nI g, R) := by
    rw [qE_gotOf, i1]
    exact q_got2 hs4 g1 g3 g4 g 0 (Nat.zero_add _)
  rw [q_ste2 hgot]
  have dv : (nI g - R.2 65 (jN p1)).toInt = (g : Int) - (R.2 65 (jN p1)).toInt := i_subE (jI_t (by omega)) rfl (by omega) (by omega)
  -- how many bytes
  obtain ⟨T, t0, t1, hT, hT2⟩ : ∃ T : Int32, 0 ≤ T.toInt ∧ T.toInt ≤ (g : Int) - (R.2 65 (jN p1)).toInt ∧ (q_st (nI g - R.2 65 (jN p1)) fun x_20 => if x_20 ≤ p2 then qF_read_45 p1 x_20 R else qF_read_45 p1 p2 R) = qF_read_45 p1 T R ∧ (if 0 < (if nI g - R.2 65 (jN p1) < p2 then nI g - R.2 65 (jN p1) else p2) then (if nI g - R.2 65 (jN p1) < p2 then nI g - R.2 65 (jN p1) else p2) else 0 : Int32) = T := by
    generalize nI g - R.2 65 (jN p1) = d at dv
    by_cases c1 : d ≤ p2
    · have c1' := c1
      rw [Int32.le_iff_toInt_le] at c1'
      refine ⟨d, by omega, by omega, (q_ste rfl).trans (if_pos c1), ?_⟩
      have hm : (if d < p2 then d else p2 : Int32) = d := by
        by_cases c2 : d < p2
        · rw [if_pos c2]
        · rw [if_neg c2]
          rw [Int32.lt_iff_toInt_lt] at c2
          exact Int32.toInt_inj.mp (by omega)
      rw [hm]
      by_cases c3 : 0 < d
      · rw [if_pos c3]
      · rw [if_neg c3]
        rw [Int32.lt_iff_toInt_lt, show (0 : Int32).toInt = 0 from rfl] at c3
        exact Int32.toInt_inj.mp (by rw [show (0 : Int32).toInt = 0 from rfl]; omega)
    · have c1' := c1
      rw [Int32.le_iff_toInt_le] at c1'
      refine ⟨p2, by omega, by omega, (q_ste rfl).trans (if_neg c1), ?_⟩
      rw [if_neg (show ¬ d < p2 by rw [Int32.lt_iff_toInt_lt]; omega), if_pos (by rw [Int32.lt_iff_toInt_lt, show (0 : Int32).toInt = 0 from rfl]; omega)]
  have hTT := hT
  rw [show (q_st (nI g - R.2 65 p1.toNatClampNeg) fun x_20 => if x_20 ≤ p2 then qF_read_45 p1 x_20 R else qF_read_45 p1 p2 R) = qF_read_45 p1 T R from hTT]
  -- the class
  have hC := cE_X8_readBytes (n + 28) (z_ar M (n + 11) (jN p1)) p2 M
  rw [s_str h0.1.1 hs4] at hC e
  replace hC := hC.trans (q_ste (b := n + (12 + 4 * jN p1)) rfl)
  rw [g2, h65] at hC
  rw [show ∀ f : Int32 → Int32 × z_Mem, q_st ((if 0 < (if nI g - R.2 65 (jN p1) < p2 then nI g - R.2 65 (jN p1) else p2) then (if nI g - R.2 65 (jN p1) < p2 then nI g - R.2 65 (jN p1) else p2) else 0) : Int32) f = f T from fun f => by rw [hT2]; rfl] at hC
  replace hC := hC.trans (q_ste (b := z_sfi M 1158 (n + (12 + 4 * jN p1)) (R.2 65 (jN p1) + T)) rfl)
  have tv : (R.2 65 (jN p1) + T).toInt = (R.2 65 (jN p1)).toInt + T.toInt := i_addE rfl rfl (by omega) (by omega)
  have h1 : jX n c (z_sfi M 1158 (n + (12 + 4 * jN p1)) (R.2 65 (jN p1) + T)) (ua R 65 (jN p1) (R.2 65 (jN p1) + T)) := by
    have F : q_fr [] [65] R (ua R 65 (jN p1) (R.2 65 (jN p1) + T)) := q_frua (by decide) q_fr0
    refine jX_up h0 (j_ssa h0.1 hs4 (by decide) (by decide)) rfl rfl rfl (F.2 _ (by decide)) (F.2 _ (by decide)) (kP_fr F (by decide) (by decide) h0.2.1) (nP_fr F (by decide) (by decide) (by decide) h0.2.2.1) ⟨h0.2.2.2.1, h0.2.2.2.2.1, h0.2.2.2.2.2.1, fun s' hs => ?_⟩
    rw [ua2, if_pos rfl, ua_n (by decide)]
    by_cases es : s' = jN p1
    · rw [if_pos es, es, tv]
      have nj := jN_toInt (x := R.2 65 (jN p1) + T) (by omega)
      exact ⟨by omega, by omega, fun j hj => g3 j (by omega)⟩
    · rw [if_neg es]; exact h0.2.2.2.2.2.2 s' hs
  have I1 : rf_I t (s + 1) (q + 1) z (ua R 65 (jN p1) (R.2 65 (jN p1) + T)).1 (ua R 65 (jN p1) (R.2 65 (jN p1) + T)).2 := rI_a I0 (by decide)
  have hQ := (qE_read_45 p1 T R).trans (q_ste (b := ua R 65 (jN p1) (R.2 65 (jN p1) + T)) rfl)
  rw [hQ]
  generalize ua R 65 (jN p1) (R.2 65 (jN p1) + T) = R2 at h1 I1 ⊢
  have hn := jX_c h1 (show c ≤ c + 1 by omega)
  by_cases c0 : T ≤ 0
  · rw [if_pos c0] at hC
    rw [if_pos c0]
    have : z_sfi M 1158 (n + (12 + 4 * jN p1)) (R.2 65 (jN p1) + T) = M1 := congrArg Prod.snd (hC.symm.trans e)
    rw [← this]
    exact hn
  · rw [if_neg c0] at hC
    rw [if_neg c0]
    replace hC := hC.trans (q_ste rfl)
    have eM := congrArg Prod.snd (hC.symm.trans e)
    have eM : cF_X8_acknowledge (n + 28) (z_sfi M 1158 (n + (12 + 4 * jN p1)) (R.2 65 (jN p1) + T)) = M1 := eM
    rw [← eM]
    by_cases X1 : R2.1 1562 = 1
    · rw [if_pos X1]
      by_cases X2 : R2.1 1575 = -1
      · rw [if_pos X2, c_ack0 h1.1 (fun g => g.2 X2)]; exact hn
      · rw [if_neg X2]; exact x_ack h1 I1 hc X1 X2
    · rw [if_neg X1, c_ack0 h1.1 (fun g => X1 g.1)]; exact hn
end JN2
