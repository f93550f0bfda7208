/-! ===== THE LIKENESS at the face: changeKey ===== -/
section JL2
variable {n : Nat} {M M0 M1 M2 : z_Mem} {r r1 r2 : q_R} {TL CL : List Nat} {p1 p2 p3 p4 p5 : Int32} {t s q z c w : Nat} {D : Int}
theorem j_ck4 (J : JJ n M r TL CL) (I : rf_I t s q z r.1 r.2) : ∀ m k (x : Int32), (x = 0 ∨ x = 1) → k + m = jN (r.1 1606) → ∃ y : Int32, (y = 0 ∨ y = 1) ∧ cF_X1_canChangeKey_4 (n + 31) x (nI k) M = (y, M) ∧ qF_changeKey_4 x (nI k) r = (if y = 0 then qF_changeKey_78 r else qF_changeKey_79 1 r) := by
  have hb := ri_pk I
  have bP := ri_P I
  have iP := jI_jN bP.1
  intro m
  induction m with
  | zero =>
    intro k x hx hk
    have hC := cE_X1_canChangeKey_4 (n + 31) x (nI k) M
    have hB := qE_changeKey_4 x (nI k) r
    have ek : nI k = r.1 1606 := by rw [← iP]; congr 1
    rw [js_133_31 J, ek, if_pos (Int32.le_refl _), js_135_31 J] at hC
    rw [ek, if_pos (Int32.le_refl _)] at hB
    rw [ek]
    by_cases c2 : r.1 1577 = 2
    · rw [if_pos c2] at hB hC
      rcases hx with e | e
      · rw [e, if_pos rfl] at hB hC
        rw [e]
        exact ⟨0, Or.inl rfl, cUr_X1_canChangeKey_4 hC, by rw [if_pos rfl]; exact qUr_changeKey_4 hB⟩
      · rw [e, if_neg (by decide)] at hB hC
        rw [e]
        exact ⟨1, Or.inr rfl, cUr_X1_canChangeKey_4 hC, by rw [if_neg (by decide)]; exact qUr_changeKey_4 hB⟩
    · rw [if_neg c2] at hB hC
      exact ⟨0, Or.inl rfl, cUr_X1_canChangeKey_4 hC, by rw [if_pos rfl]; exact qUr_changeKey_4 hB⟩
  | succ m ih =>
    intro k x hx hk
    have ek : (nI k).toNatClampNeg = k := jI_N (by omega)
    have nle : ¬ r.1 1606 ≤ nI k := by
      rw [← iP]
      exact fun h => absurd ((jI_le (by omega) (by omega)).mp h) (by omega)
    have e1 : nI k + 1 = nI (k + 1) := by rw [jI_1, jI_add (by show k + 1 < _; omega)]
    obtain ⟨pk, b1, b2, b3, b4, b5⟩ := J.pkt (show k < jN (r.1 1606) by omega)
    have f774 : z_fi M 774 pk = r.2 78 k := jp_774 b5
    have f778 : z_fi M 778 pk = r.2 76 k := b5 (778, 76) (by decide)
    have hC := cE_X1_canChangeKey_4 (n + 31) x (nI k) M
    have hB := qE_changeKey_4 x (nI k) r
    rw [js_133_31 J, if_neg nle] at hC
    rw [if_neg nle, ek] at hB
    replace hC := hC.trans (q_ste2 ((j_patS J I (show k < jN (r.1 1606) by omega)).trans (by rw [b1])))
    replace hC := hC.trans (q_ops rfl)
    rw [f774, js_142_31 J] at hC
    have c42 : ∀ x', cF_X1_canChangeKey_42 (n + 31) x' (nI k) M = .inl (x', nI (k + 1), M) := fun x' => by
      rw [cE_X1_canChangeKey_42, e1]; rfl
    have h54 : ∀ x', qF_changeKey_54 (nI k) x' r = .inl (x', nI (k + 1), r) := fun x' => by
      rw [qE_changeKey_54, e1]; rfl
    have hack : cF_X1_isAcknowledged (some pk) M = ((if r.2 76 k = 1 ∨ r.2 76 k = 3 then 1 else 0 : Int32), M) := by
      rw [cE_X1_isAcknowledged]
      refine (q_ste (b := pk) rfl).trans ?_
      rw [f778]
      by_cases a1 : r.2 76 k = 1
      · rw [if_pos a1, if_pos (Or.inl a1)]
      · rw [if_neg a1]
        by_cases a3 : r.2 76 k = 3
        · rw [if_pos a3, if_pos (Or.inr a3)]
        · rw [if_neg a3, if_neg (fun h => h.elim a1 a3)]
    have fin : ∀ x' : Int32, (x' = 0 ∨ x' = 1) → cB_X1_canChangeKey_4 (n + 31) x (nI k) M = .inl (x', nI (k + 1), M) → qB_changeKey_4 x (nI k) r = .inl (x', nI (k + 1), r) → ∃ y : Int32, (y = 0 ∨ y = 1) ∧ cF_X1_canChangeKey_4 (n + 31) x (nI k) M = (y, M) ∧ qF_changeKey_4 x (nI k) r = (if y = 0 then qF_changeKey_78 r else qF_changeKey_79 1 r) := fun x' hx' h1 h2 => by
      rw [cUl_X1_canChangeKey_4 h1, qUl_changeKey_4 h2]
      exact ih (k + 1) x' hx' (by omega)
    rcases hx with e | e
    · rw [if_pos e, qE_changeKey_49, qE_changeKey_53, h54, h54] at hB
      by_cases a : r.2 78 k = r.1 1584
      · rw [if_pos a] at hB hC
        replace hC := hC.trans (q_ste2 hack)
        by_cases b : r.2 76 k = 1 ∨ r.2 76 k = 3
        · rw [if_pos b, if_neg (by decide), c42] at hC
          refine fin 1 (Or.inr rfl) hC (hB.trans ?_)
          by_cases a1 : r.2 76 k = 1
          · rw [if_pos a1]
          · rw [if_neg a1, if_pos (b.elim (fun h => absurd h a1) id)]
        · rw [if_neg b, if_pos rfl, c42, e] at hC
          refine fin 0 (Or.inl rfl) (by rw [e]; exact hC) (hB.trans ?_)
          rw [if_neg (fun h => b (Or.inl h)), if_neg (fun h => b (Or.inr h))]
      · rw [if_neg a] at hB hC
        rw [c42, e] at hC
        exact fin 0 (Or.inl rfl) (by rw [e]; exact hC) hB
    · have ne : ¬ x = 0 := by rw [e]; decide
      rw [if_neg ne, qE_changeKey_49, h54] at hB
      have c42' := c42 x
      rw [e] at c42'
      by_cases a : r.2 78 k = r.1 1584
      · rw [if_pos a] at hC
        replace hC := hC.trans (q_ste2 hack)
        by_cases b : r.2 76 k = 1 ∨ r.2 76 k = 3
        · rw [if_pos b, if_neg (by decide), c42] at hC
          exact fin 1 (Or.inr rfl) hC hB
        · rw [if_neg b, if_pos rfl, e, c42'] at hC
          exact fin 1 (Or.inr rfl) (by rw [e]; exact hC) hB
      · rw [if_neg a, e, c42'] at hC
        exact fin 1 (Or.inr rfl) (by rw [e]; exact hC) hB
theorem x_changeKey (h : jX n c M r) (hc : c ≤ 512) (I : rf_I t s q z r.1 r.2) {x : Int32} {M2 : z_Mem} (e : cF_X1_canChangeKey (n + 31) M = (x, M2)) : (x = 0 → ∃ v, (qF_changeKey r).2 = uf r 1630 v) ∧ (¬ x = 0 → jX n (c + 1) (z_sfi M 142 (n + 31) (z_fi M 142 (n + 31) + 1)) (qF_changeKey r).2) := by
  obtain ⟨y, hy, h1, h2⟩ := j_ck4 h.1 I (jN (r.1 1606)) 0 0 (Or.inl rfl) (Nat.zero_add _)
  rw [cE_X1_canChangeKey] at e
  have e0 : (0 : Int32) = nI 0 := rfl
  have hx : x = y := congrArg Prod.fst (e.symm.trans h1)
  rw [qE_changeKey]
  rw [show qF_changeKey_4 0 0 r = qF_changeKey_4 0 (nI 0) r from rfl, h2, hx]
  refine ⟨fun e0 => ?_, fun e0 => ?_⟩
  · rw [if_pos e0, qE_changeKey_78, qE_changeKey_79]
    obtain ⟨v, hv⟩ := q_go0 (r := r) (a := 0) (b := 1) (d := 1) (Or.inl rfl)
    exact ⟨v, by rw [q_ste2 hv, if_pos rfl]⟩
  · rw [if_neg e0, qE_changeKey_79, q_ste2 (q_go1 (by decide) (by decide) (by decide)), if_neg (by decide)]
    have h0 := jX_1630 h (v := 0)
    rw [js_142_31 h.1]
    have k84 : (uf r 1630 0).1 1584 = r.1 1584 := rfl
    rw [← k84]
    generalize uf r 1630 0 = R at h0 ⊢
    show jX n (c + 1) (z_sfi M 142 (n + 31) (R.1 1584 + 1)) (uf R 1584 (R.1 1584 + 1))
    have J1 := h0.1.sf (M1 := z_sfi M 142 (n + 31) (R.1 1584 + 1)) (j := 1584) rfl (by decide)
    have F : q_fr [1584] [] R (uf R 1584 (R.1 1584 + 1)) := q_fruf (by decide) q_fr0
    have h' := jX_c h0 (show c ≤ c + 1 by omega)
    have hk := h0.2.2.1.2.2.2.2.2.2
    refine jX_up h' J1 rfl rfl rfl rfl rfl (kP_uf h0.2.1 (by decide)) ?_ (nA_fr F (by decide) h0.2.2.2)
    obtain ⟨q1, g1, d1, s1, c1, y1, y2, y3⟩ := h'.2.2.1
    have e1 : (R.1 1584 + 1).toInt = (R.1 1584).toInt + 1 := i_addE rfl (show (1 : Int32).toInt = 1 from rfl) (by omega) (by omega)
    refine ⟨q1, nH_c (r := R) (fun g hg => F.1 g (by revert hg; revert g; decide)) (fun _ _ => rfl) g1, nD_c (r := R) (fun g hg => F.1 g (by revert hg; revert g; decide)) (fun _ _ => rfl) d1, nS_c (r := R) (fun g hg => F.1 g (by revert hg; revert g; decide)) (fun _ _ => rfl) s1.2.2.2.2.1 s1, nC_c (r := R) (fun g hg => F.1 g (by revert hg; revert g; decide)) rfl c1, y1, ?_⟩
    rw [uf_e, e1]
    omega
end JL2
