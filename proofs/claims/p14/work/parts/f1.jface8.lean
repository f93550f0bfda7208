/-! ===== THE LIKENESS at the face: the server loses its state ===== -/
section JO2
variable {n : Nat} {M M0 M1 M2 : z_Mem} {r r1 r2 : q_R} {TL CL : List Nat} {p1 p2 p3 p4 p5 : Int32} {t s q z c w : Nat} {D : Int}
theorem uf_cm {g h : Nat} {v x : Int32} (e : g ≠ h) : uf (uf r g v) h x = uf (uf r h x) g v := by
  refine Prod.ext (funext fun k => ?_) rfl
  show (if k = h then x else if k = g then v else r.1 k) = (if k = g then v else if k = h then x else r.1 k)
  by_cases a : k = h
  · rw [if_pos a, if_neg (by omega), if_pos a]
  · rw [if_neg a, if_neg a]
/-- the server forgets: its state, and that it took early data -/
theorem JJ.gone (J : JJ n M r TL CL) : JJ n (z_sfi (z_sfi M 1026 (n + 28) 3) 1028 (n + 28) 0) (uf r 1562 3) TL CL := by
  refine J.congr (S_sfi (S_sfi J.1)) (fun t ht => ?_) (fun t ht i hi => J.2.2.1 t ht i hi) (hF_tr (hF_sfi (by decide)) (hF_sfi (by decide))) (fun _ _ => rfl) (fun q hq => ?_) (fun k hk => ?_) (fun _ _ => rfl)
  · have hT : ∀ t, t ∈ jT → t = (1026, 28, 0, 1562) ∨ t = (1028, 28, 0, 1764) ∨ (¬ (t.1 = 1026 ∧ t.2.1 = 28) ∧ ¬ (t.1 = 1028 ∧ t.2.1 = 28) ∧ (t.2.2.1 = 0 → t.2.2.2 ≠ 1562 ∧ t.2.2.2 ≠ 1764)) := by decide
    rcases hT t ht with rfl | rfl | ⟨h1, h2, h3⟩
    · show z_fi (z_sfi (z_sfi M 1026 (n + 28) 3) 1028 (n + 28) 0) 1026 (n + 28) = j_fv (uf r 1562 3) 1562
      rw [zq_fi_sfi, if_neg (by decide), zq_fi_sfi, if_pos rfl, if_pos rfl, j_fvn (by decide) (by decide)]; rfl
    · show z_fi (z_sfi (z_sfi M 1026 (n + 28) 3) 1028 (n + 28) 0) 1028 (n + 28) = j_fv (uf r 1562 3) 1764
      rw [zq_fi_sfi, if_pos rfl, if_pos rfl]
      unfold j_fv
      rw [if_pos rfl, if_pos (show (uf r 1562 3).1 1562 = 0 ∨ (uf r 1562 3).1 1562 = 3 from Or.inr rfl)]
    · rw [jfi h2, jfi h1, J.2.1 t ht]
      unfold j_loc
      by_cases hx : t.2.2.1 = 0
      · obtain ⟨a, c⟩ := h3 hx
        rw [if_pos hx, if_pos hx]
        exact (j_fvo (r := r) (r1 := uf r 1562 3) (fun e => absurd e c) (fun _ => ⟨rfl, rfl⟩) (if_neg a)).symm
      · rw [if_neg hx, if_neg hx]; rfl
  · have hq2 := (show ∀ q, q ∈ jXF → ¬ (q.1 = 1026 ∧ q.2 = 28) ∧ ¬ (q.1 = 1028 ∧ q.2 = 28) from by decide) q hq
    rw [jfi hq2.2, jfi hq2.1]
  · have := (show ∀ k, k ∈ jRF → k ≠ 1562 from by decide) k hk
    exact if_neg this
def q_z : Nat → Nat → q_R → q_R
  | 0, _, r => r
  | m + 1, k, r => q_z m (k + 1) (ua r 63 k 0)
theorem q_zF : ∀ m k (r : q_R), (q_z m k r).1 = r.1 ∧ (∀ x, x ≠ 63 → (q_z m k r).2 x = r.2 x) ∧ (∀ j, k ≤ j → j < k + m → (q_z m k r).2 63 j = 0) ∧ (∀ j, (j < k ∨ k + m ≤ j) → (q_z m k r).2 63 j = r.2 63 j) := by
  intro m
  induction m with
  | zero => intro k r; exact ⟨rfl, fun _ _ => rfl, fun j h1 h2 => absurd h2 (by omega), fun _ _ => rfl⟩
  | succ m ih =>
    intro k r
    obtain ⟨a, b, d, e⟩ := ih (k + 1) (ua r 63 k 0)
    refine ⟨a, fun x hx => (b x hx).trans (ua_n hx), fun j h1 h2 => ?_, fun j hj => ?_⟩
    · by_cases ej : j = k
      · have := e j (Or.inl (by omega))
        show (q_z m (k + 1) (ua r 63 k 0)).2 63 j = 0
        rw [this, ua2, if_pos rfl, if_pos ej]
      · exact d j (by omega) (by omega)
    · have := e j (by omega)
      show (q_z m (k + 1) (ua r 63 k 0)).2 63 j = _
      rw [this, ua2, if_pos rfl, if_neg (by omega)]
theorem j_clr : ∀ m k (M : z_Mem) (r : q_R), k + m = 400 → JJ n M r TL CL → JJ n (cF_X11_clearRow_2 (some (n + 30)) (nI k) M) (q_z m k r) TL CL ∧ qF_loseState_12 (nI k) r = qF_loseState_12 (nI 400) (q_z m k r) := by
  intro m
  induction m with
  | zero =>
    intro k M r hk J
    have ek : k = 400 := by omega
    subst ek
    refine ⟨?_, rfl⟩
    have hC := cE_X11_clearRow_2 (some (n + 30)) (nI 400) M
    replace hC := hC.trans (q_ste (b := n + 30) rfl)
    rw [s_l30 J.1, if_pos (Int32.le_refl _)] at hC
    rw [cUr_X11_clearRow_2 hC]
    exact J
  | succ m ih =>
    intro k M r hk J
    have ek : (nI k).toNatClampNeg = k := jI_N (by omega)
    have e2 : nI k + 1 = nI (k + 1) := by rw [jI_1, jI_add (by show k + 1 < _; omega)]
    have nle : ¬ nI 400 ≤ nI k := fun h => absurd ((jI_le (a := 400) (b := k) (by omega) (by omega)).mp h) (by omega)
    have hC := cE_X11_clearRow_2 (some (n + 30)) (nI k) M
    replace hC := hC.trans (q_ste (b := n + 30) rfl)
    rw [s_l30 J.1, if_neg nle, ek, e2] at hC
    replace hC := hC.trans (q_ste rfl)
    replace hC := hC.trans (q_ste rfl)
    have hB := qE_loseState_12 (nI k) r
    rw [if_neg (show ¬ (400 : Int32) ≤ nI k from nle), ek, e2] at hB
    replace hB := hB.trans (q_ste rfl)
    replace hB := hB.trans (q_ste rfl)
    obtain ⟨y1, y2⟩ := ih (k + 1) _ (ua r 63 k 0) (by omega) (J.srow (M1 := z_sai M (n + 30) k 0) (x := 63) (v := 0) (Or.inr ⟨rfl, rfl, by omega⟩) rfl)
    rw [cUl_X11_clearRow_2 hC, qUl_loseState_12 hB]
    exact ⟨y1, y2⟩
theorem x_loseState (h : jX n c M r) : jX n c (cF_X8_forget (n + 28) M) (qF_loseState r) := by
  have h0 := jX_1630 h (v := 0)
  have hQ : qF_loseState r = qF_loseState_12 (nI 0) (uf (uf r 1630 0) 1562 3) := by rw [qE_loseState]; rfl
  rw [hQ]
  generalize uf r 1630 0 = R at h0 ⊢
  have J1 := h0.1.gone
  have hC := cE_X8_forget (n + 28) M
  replace hC := hC.trans (q_ste rfl)
  replace hC := hC.trans (q_ste (b := z_sfi (z_sfi M 1026 (n + 28) 3) 1028 (n + 28) 0) rfl)
  generalize z_sfi (z_sfi M 1026 (n + 28) 3) 1028 (n + 28) 0 = W at hC J1
  rw [s_1033_28 J1.1, cE_X11_clearRow] at hC
  obtain ⟨J2, e2⟩ := j_clr 400 0 W (uf R 1562 3) rfl J1
  obtain ⟨z1, z2, z3, z4⟩ := q_zF 400 0 (uf R 1562 3)
  rw [e2]
  replace hC := hC.trans (q_ste (b := cF_X11_clearRow_2 (some (n + 30)) (nI 0) W) rfl)
  generalize cF_X11_clearRow_2 (some (n + 30)) (nI 0) W = V at hC J2
  generalize q_z 400 0 (uf R 1562 3) = R2 at J2 z1 z2 z3 z4 ⊢
  have hB := qE_loseState_12 (nI 400) R2
  rw [if_pos (show (400 : Int32) ≤ nI 400 by decide)] at hB
  replace hB := hB.trans (q_ste rfl)
  replace hB := hB.trans (q_ste rfl)
  replace hB := hB.trans (q_ste rfl)
  replace hB := hB.trans (q_ste rfl)
  replace hB := hB.trans (q_ste rfl)
  rw [qUr_loseState_12 hB, hC]
  have J3 := ((((J2.sf (M1 := z_sfi V 1034 (n + 28) (-1)) (v := -1) (j := 1572) rfl (by decide)).sf (v := 0) (g := 1035) (c := 28) (j := 1576) rfl (by decide)).sf (v := 0) (g := 1036) (c := 28) (j := 1573) rfl (by decide)).sf (v := -1) (g := 1037) (c := 28) (j := 1574) rfl (by decide)).sf (v := -1) (g := 1038) (c := 28) (j := 1575) rfl (by decide)
  have er : uf (uf (uf (uf (uf R2 1572 (-1)) 1576 0) 1573 0) 1574 (-1)) 1575 (-1) = uf (uf (uf (uf (uf R2 1572 (-1)) 1573 0) 1574 (-1)) 1575 (-1)) 1576 0 := by
    rw [uf_cm (g := 1576) (h := 1573) (by decide), uf_cm (g := 1576) (h := 1574) (by decide), uf_cm (g := 1576) (h := 1575) (by decide)]
  rw [er] at J3
  have w1 : ∀ g, g ≠ 1562 → g ≠ 1572 → g ≠ 1573 → g ≠ 1574 → g ≠ 1575 → g ≠ 1576 → (uf (uf (uf (uf (uf R2 1572 (-1)) 1573 0) 1574 (-1)) 1575 (-1)) 1576 0).1 g = R.1 g := fun g a b c d e f => by
    rw [uf_n f, uf_n e, uf_n d, uf_n c, uf_n b, z1, uf_n a]
  have v62 : (uf (uf (uf (uf (uf R2 1572 (-1)) 1573 0) 1574 (-1)) 1575 (-1)) 1576 0).1 1562 = 3 := by
    rw [uf_n (by decide), uf_n (by decide), uf_n (by decide), uf_n (by decide), uf_n (by decide), z1, uf_e]
  have v72 : (uf (uf (uf (uf (uf R2 1572 (-1)) 1573 0) 1574 (-1)) 1575 (-1)) 1576 0).1 1572 = -1 := by
    rw [uf_n (by decide), uf_n (by decide), uf_n (by decide), uf_n (by decide), uf_e]
  have v73 : (uf (uf (uf (uf (uf R2 1572 (-1)) 1573 0) 1574 (-1)) 1575 (-1)) 1576 0).1 1573 = 0 := by
    rw [uf_n (by decide), uf_n (by decide), uf_n (by decide), uf_e]
  have v74 : (uf (uf (uf (uf (uf R2 1572 (-1)) 1573 0) 1574 (-1)) 1575 (-1)) 1576 0).1 1574 = -1 := by
    rw [uf_n (by decide), uf_n (by decide), uf_e]
  have w2 : ∀ x, x ≠ 63 → (uf (uf (uf (uf (uf R2 1572 (-1)) 1573 0) 1574 (-1)) 1575 (-1)) 1576 0).2 x = R.2 x := fun x hx => (z2 x hx).trans rfl
  have w63 : ∀ j, j < 400 → (uf (uf (uf (uf (uf R2 1572 (-1)) 1573 0) 1574 (-1)) 1575 (-1)) 1576 0).2 63 j = 0 := fun j hj => z3 j (Nat.zero_le _) (by omega)
  generalize uf (uf (uf (uf (uf R2 1572 (-1)) 1573 0) 1574 (-1)) 1575 (-1)) 1576 0 = R3 at J3 w1 v62 v72 v73 v74 w2 w63 ⊢
  have F : q_fr [1562, 1572, 1573, 1574, 1575, 1576] [63] R R3 := ⟨fun g hg => w1 g (fun e => hg (by rw [e]; decide)) (fun e => hg (by rw [e]; decide)) (fun e => hg (by rw [e]; decide)) (fun e => hg (by rw [e]; decide)) (fun e => hg (by rw [e]; decide)) (fun e => hg (by rw [e]; decide)), fun x hx => w2 x (fun e => hx (by rw [e]; decide))⟩
  refine jX_up h0 J3 (F.1 _ (by decide)) (F.1 _ (by decide)) (F.1 _ (by decide)) (F.2 _ (by decide)) (F.2 _ (by decide)) (kP_fr F (by decide) (by decide) h0.2.1) ?_ ⟨fun e => ?_, fun _ => v74, fun _ => v74, nG_c (F.2 64 (by decide)) (F.2 65 (by decide)) h0.2.2.2.2.2.2⟩
  · obtain ⟨q1, g1, ⟨d1, d2, d3, d4, d5, d6, d7, d8⟩, ⟨s1, s2, s3, s4, s5, s6⟩, ⟨k, H, a1, a2, a3, a4, a5⟩, p1'⟩ := h0.2.2.1
    have n3 : ¬ (3 : Int32) = 0 := by decide
    refine ⟨nQ_c (F.2 51 (by decide)) (F.2 50 (by decide)) (F.1 1551 (by decide)) (F.2 54 (by decide)) q1, nH_c (fun g hg => F.1 g (by revert hg; revert g; decide)) (fun x hx => F.2 x (by revert hx; revert x; decide)) g1, ⟨?_, ?_, ⟨fun i hi => Or.inl (w63 i hi), by rw [v72]; decide, fun k _ hk4 => w63 k hk4⟩, fun k hk e => absurd (w63 k hk) e, fun a ha e => ?_, ?_, Or.inl v73, ?_⟩, ⟨Or.inr (Or.inr (Or.inr v62)), ?_, fun e => absurd (v62.symm.trans e) n3, fun e => ?_, ?_, ?_⟩, ⟨k, H, a1, ?_, ?_, ?_, ?_⟩, nK_c (F.1 1536 (by decide)) (F.1 1584 (by decide)) (fun x hx => F.2 x (by revert hx; revert x; decide)) p1'⟩
    · rw [F.1 1551 (by decide), F.1 1606 (by decide), F.2 52 (by decide), F.2 53 (by decide), F.2 54 (by decide)]; exact d1
    · rw [F.1 1554 (by decide), F.1 1551 (by decide), F.2 52 (by decide), F.2 53 (by decide), F.2 55 (by decide), F.2 56 (by decide), F.2 72 (by decide)]; exact d2
    · rw [F.1 1559 (by decide)] at ha
      rw [F.2 57 (by decide)] at e
      rw [F.2 58 (by decide), F.2 60 (by decide), F.1 1561 (by decide)]
      exact ⟨(d5 a ha e).1, nTld_c (F.2 61 (by decide)) (F.1 1606 (by decide)) (F.2 72 (by decide)) (d5 a ha e).2⟩
    · rw [F.1 1606 (by decide), F.2 78 (by decide)]; exact d6
    · rw [F.1 1568 (by decide)]; exact d8
    · rw [F.1 1577 (by decide)]; exact s2
    · rw [F.1 1577 (by decide)] at e
      rw [F.1 1551 (by decide), F.1 1559 (by decide)]
      exact ⟨(s4 e).1, (s4 e).2.1, Or.inr v62⟩
    · rw [F.1 1577 (by decide), F.2 91 (by decide)]; exact s5
    · rw [F.1 1577 (by decide), F.1 1582 (by decide)]; exact s6
    · rw [F.1 1577 (by decide)]; exact a2
    · rw [F.1 1577 (by decide), F.1 1581 (by decide), F.1 1580 (by decide), F.1 1579 (by decide)]; exact a3
    · rw [F.1 1551 (by decide), F.1 1606 (by decide)]; exact a4
    · have eR : nAr R3 = nAr R := nAr_c (F.1 1536 (by decide)) (F.1 1554 (by decide)) (F.2 56 (by decide))
      have eF : nFl R3 = 0 := by unfold nFl; rw [if_pos v74]
      rw [eR, eF, F.1 1559 (by decide), F.1 1551 (by decide), F.1 1606 (by decide), F.1 1536 (by decide)]
      omega
  · rw [v62] at e; exact absurd e (by decide)
end JO2
