/-! ===== THE LIKENESS: what the client is, and the time ===== -/
section JST
variable {n : Nat} {M M0 M1 M2 : z_Mem} {r r1 r2 : q_R} {TL CL : List Nat} {t s q z : Nat}
/-- the likeness, where what is told in another form was shown by itself -/
theorem JJ.congrX (J : JJ n M r TL CL) (S : y_S n M1) (js : JS n M1 r1) (ja : JA n M1 r1) (X : JX n M1 r1) (H : hF n M M1) (hz : ∀ x, x ∈ [38, 3, 5, 7, 9] → z_ar M1 (n + x) = z_ar M (n + x)) (hc : ∀ q, q ∈ [(394, 2), (394, 4), (1281, 6), (1281, 8)] → z_fi M1 q.1 (n + q.2) = z_fi M q.1 (n + q.2)) (hf : ∀ g, g ∈ [1606, 1551, 1554, 1559, 1561] → r1.1 g = r.1 g) (ha : ∀ x, x ∈ jRA → r1.2 x = r.2 x) : JJ n M1 r1 TL CL := by
  obtain ⟨-, -, -, -, P, Q, T, C⟩ := J
  have e38 := hz 38 (by decide)
  have e6 := hf 1606 (by decide)
  refine ⟨S, js, ja, X, P.congr H e38 e6 (fun t ht => ha _ (by revert ht; revert t; decide)), fun p hp => ?_, T.congr H.m e38 (hz 7 (by decide)) (hc (1281, 6) (by decide)) e6 (by rw [hf 1551 (by decide)]; exact Nat.le_refl _) (by rw [hf 1554 (by decide)]; exact Nat.le_refl _) (fun x _ hx _ => by rw [ha x (by revert hx; revert x; decide)]) (fun x _ hx _ => by rw [ha x (by revert hx; revert x; decide)]), ?_⟩
  · have : p = 0 ∨ p = 1 := by omega
    refine (Q p hp).congr H.m e38 ?_ ?_ e6 (by rw [ha 51 (by decide)]) (fun _ _ => by rw [ha 50 (by decide)]) (by rw [hf 1551 (by decide)]; exact Nat.le_refl _) (fun x _ hx _ => by rw [ha x (by revert hx; revert x; decide)])
    · rcases this with rfl | rfl
      · exact hz 3 (by decide)
      · exact hz 5 (by decide)
    · rcases this with rfl | rfl
      · exact hc (394, 2) (by decide)
      · exact hc (394, 4) (by decide)
  · have e61 := ha 61 (by decide)
    have et := hf 1561 (by decide)
    refine C.congr H.m (hz 9 (by decide)) (hc (1281, 8) (by decide)) (by rw [hf 1559 (by decide)]; exact Nat.le_refl _) (by rw [et, e61]; exact C.2.2.2.1) (by rw [et]; exact Nat.le_refl _) (fun t i _ _ => by rw [e61]) (fun x k hx _ => by rw [ha x (by revert hx; revert x; decide)])
/-- the client's state, but closing -/
theorem JJ.state (J : JJ n M r TL CL) {v : Int32} (hv : ¬ v = 3) (hv0 : ¬ v = 0) (hr : ¬ r.1 1577 = 0) (e : M1 = z_sfi M 135 (n + 31) v) : JJ n M1 (uf r 1577 v) TL CL := by
  subst e
  have en : ∀ {k a : Nat}, k ≠ 135 → z_fi (z_sfi M 135 (n + 31) v) k a = z_fi M k a := fun h1 => by rw [zq_fi_sfi, if_neg h1]
  have hu : ∀ g, g ≠ 1577 → (uf r 1577 v).1 g = r.1 g := fun g hg => uf_n hg
  have h77 : (uf r 1577 v).1 1577 = v := uf_e
  have h2 : (uf r 1577 v).2 = r.2 := rfl
  have J0 := J
  obtain ⟨S, js, ja, X, P, Q, T, C⟩ := J
  have js1 : JS n (z_sfi M 135 (n + 31) v) (uf r 1577 v) := js.st77 hv0 hr
  refine J0.congrX (S_sfi S) js1 (ja.congr (fun _ _ _ _ => rfl) (fun _ _ => rfl)) ?_ (hF_sfi (by omega)) (fun _ _ => rfl) (fun q hq => en (by revert hq; revert q; decide)) (fun g hg => hu g (by revert hg; revert g; decide)) (fun _ _ => rfl)
  obtain ⟨y1, y2, y3, y4, y5, y6, y7, y8, y9, y10⟩ := X
  refine ⟨fun p hp => ?_, ?_, ?_, fun s' hs' => ?_, fun s' hs' => ?_, fun p hp => ?_, ?_, fun p hp => ?_, fun p hp h => ?_, ?_⟩
  · rw [en (by decide)]; exact y1 p hp
  · rw [h77]; exact fun h => absurd h hv
  · rw [en (by decide), hu 1567 (by decide), hu 1568 (by decide)]; exact y3
  · rw [en (by decide)]; exact y4 s' hs'
  · rw [en (by decide)]; exact y5 s' hs'
  · rw [en (by decide), hu 1606 (by decide)]; exact y6 p hp
  · rw [en (by decide), hu 1606 (by decide)]; exact y7
  · rw [en (by decide)]; exact y8 p hp
  · rw [en (by decide), en (by decide)]; exact y9 p hp h
  · rw [en (by decide)]; exact y10
/-- the client is closing -/
theorem JJ.closing (J : JJ n M r TL CL) (hr : ¬ r.1 1577 = 0) (e : M1 = z_sfi (z_sfi M 135 (n + 31) 3) 141 (n + 31) (r.1 1536 + 30)) : JJ n M1 (uf (uf r 1577 3) 1582 (r.1 1536)) TL CL := by
  subst e
  generalize hw : r.1 1536 + 30 = w
  have en : ∀ {k a : Nat}, k ≠ 135 → k ≠ 141 → z_fi (z_sfi (z_sfi M 135 (n + 31) 3) 141 (n + 31) w) k a = z_fi M k a := fun h1 h2 => by rw [zq_fi_sfi, if_neg h2, zq_fi_sfi, if_neg h1]
  have hu : ∀ g, g ≠ 1577 → g ≠ 1582 → (uf (uf r 1577 3) 1582 (r.1 1536)).1 g = r.1 g := fun g hg h2 => by rw [uf_n h2, uf_n hg]
  have J0 := J
  obtain ⟨S, js, ja, X, P, Q, T, C⟩ := J
  have js1 : JS n (z_sfi (z_sfi M 135 (n + 31) 3) 141 (n + 31) w) (uf (uf r 1577 3) 1582 (r.1 1536)) := ((js.st77 (v := 3) (by decide) hr).fc (by decide)).rf (by decide)
  refine J0.congrX (S_sfi (S_sfi S)) js1 (ja.congr (fun _ _ _ _ => rfl) (fun _ _ => rfl)) ?_ (hF_tr (hF_sfi (by omega)) (hF_sfi (by omega))) (fun _ _ => rfl) (fun q hq => en (by revert hq; revert q; decide) (by revert hq; revert q; decide)) (fun g hg => hu g (by revert hg; revert g; decide) (by revert hg; revert g; decide)) (fun _ _ => rfl)
  obtain ⟨y1, y2, y3, y4, y5, y6, y7, y8, y9, y10⟩ := X
  refine ⟨fun p hp => ?_, ?_, ?_, fun s' hs' => ?_, fun s' hs' => ?_, fun p hp => ?_, ?_, fun p hp => ?_, fun p hp h => ?_, ?_⟩
  · rw [en (by decide) (by decide)]; exact y1 p hp
  · intro _
    rw [uf_e, zq_fi_sfi, if_pos rfl, if_pos rfl]; exact hw.symm
  · rw [en (by decide) (by decide), hu 1567 (by decide) (by decide), hu 1568 (by decide) (by decide)]; exact y3
  · rw [en (by decide) (by decide)]; exact y4 s' hs'
  · rw [en (by decide) (by decide)]; exact y5 s' hs'
  · rw [en (by decide) (by decide), hu 1606 (by decide) (by decide)]; exact y6 p hp
  · rw [en (by decide) (by decide), hu 1606 (by decide) (by decide)]; exact y7
  · rw [en (by decide) (by decide)]; exact y8 p hp
  · rw [en (by decide) (by decide), en (by decide) (by decide)]; exact y9 p hp h
  · rw [en (by decide) (by decide)]; exact y10
theorem rI_1577 (I : rf_I t s q z r.1 r.2) {v : Int32} (hv : ¬ v = 1) : rf_I t s q z (uf r 1577 v).1 (uf r 1577 v).2 := by
  obtain ⟨c1, c2, c3, c4, c5, c6, c7, c8, c9, c10, c11, c12⟩ := I
  have w : ∀ k, k ≠ 1577 → (uf r 1577 v).1 k = r.1 k := fun k hk => uf_n hk
  refine ⟨c1, c2.congr (fun y hy => w y (by revert hy; revert y; decide)), c3, c4.congr (fun _ _ => rfl) (fun y hy => w y (by revert hy; revert y; decide)), c5, c6.congr (fun _ _ => rfl) (fun y hy => w y (by revert hy; revert y; decide)), c7, c8.congr (fun _ _ => rfl) (fun y hy => w y (by revert hy; revert y; decide)), ?_, c10, c11.congr (fun _ _ => rfl) (fun y hy => w y (by revert hy; revert y; decide)), c12.congr (fun _ _ => rfl) (fun y hy => w y (by revert hy; revert y; decide))⟩
  unfold rf_C9 at c9 ⊢
  rw [uf_e, w 1580 (by decide), w 1536 (by decide)]
  exact ⟨fun h => absurd h hv, c9.2⟩
theorem kI_1577 (h : kI t s q z r) {v : Int32} (hv : ¬ v = 1) : kI t s q z (uf r 1577 v) := ⟨rI_1577 h.1 hv, kP_uf h.2 (by decide)⟩
/-- ACCEPT: early packets are refused -/
theorem q_acc1 (h : kI t s q z r) {y : Int32} (hy : ¬ y = 0) : ∀ m k, k + m = jN (r.1 1606) → qF_hearsAccept_21 y (nI k) r = r := by
  have hb := ri_pk h.1
  have hP := ri_P h.1
  have hPN := jN_toInt hP.1
  intro m
  induction m with
  | zero =>
    intro k hk
    have hQ := qE_hearsAccept_21 y (nI k) r
    rw [if_pos (by rw [Int32.le_iff_toInt_le, jI_t (by omega)]; omega)] at hQ
    exact qUr_hearsAccept_21 hQ
  | succ m ih =>
    intro k hk
    have hQ := qE_hearsAccept_21 y (nI k) r
    rw [if_neg (by rw [Int32.le_iff_toInt_le, jI_t (by omega)]; omega), if_neg hy] at hQ
    have h57 := qE_hearsAccept_57 y (nI k) r
    replace h57 := h57.trans (q_ste (b := nI (k + 1)) (by rw [jI_1, jI_add (by omega)]))
    rw [qUl_hearsAccept_21 (hQ.trans h57)]
    exact ih (k + 1) (by omega)
/-- below the first open one nothing is refused -/
theorem q_acc0 (h : kI t s q z r) : ∀ m k o, k + m = o → o ≤ jN (r.1 1606) → (∀ i, i < o → ¬ r.2 76 i = 0) → qF_hearsAccept_21 0 (nI k) r = qF_hearsAccept_21 0 (nI o) r := by
  have hb := ri_pk h.1
  have hP := ri_P h.1
  have hPN := jN_toInt hP.1
  intro m
  induction m with
  | zero => intro k o hk _ _; rw [show k = o by omega]
  | succ m ih =>
    intro k o hk ho hi
    have hQ := qE_hearsAccept_21 0 (nI k) r
    have h57 := qE_hearsAccept_57 0 (nI k) r
    replace h57 := h57.trans (q_ste (b := nI (k + 1)) (by rw [jI_1, jI_add (by omega)]))
    rw [if_neg (by rw [Int32.le_iff_toInt_le, jI_t (by omega)]; omega), if_pos rfl, jI_N (by omega : k < 2147483648)] at hQ
    have hR : qB_hearsAccept_21 0 (nI k) r = qF_hearsAccept_57 0 (nI k) r := by
      by_cases c : r.2 80 k = 0
      · rw [if_pos c] at hQ; exact hQ
      · rw [if_neg c, if_neg (hi k (by omega))] at hQ; exact hQ
    rw [qUl_hearsAccept_21 (hR.trans h57)]
    exact ih (k + 1) o (by omega) ho hi
/-- what refusing leaves alone -/
def kFR (r r1 : q_R) : Prop := q_fr [] [70, 76] r r1
theorem j_acc29 : ∀ (m k : Nat) (M : z_Mem) (r : q_R), k + m = jN (r.1 1606) → JJ n M r TL CL → kI t s q z r → ∃ M' r', JJ n M' r' TL CL ∧ kI t s q z r' ∧ kFR r r' ∧ cF_X1_hearAccept_29 (n + 31) 0 (nI k) M = M' ∧ qF_hearsAccept_21 0 (nI k) r = r' := by
  intro m
  induction m with
  | zero =>
    intro k M r hk J h
    have hb := ri_pk h.1
    have hP := ri_P h.1
    have hPN := jN_toInt hP.1
    have hB := cE_X1_hearAccept_29 (n + 31) 0 (nI k) M
    have hQ := qE_hearsAccept_21 0 (nI k) r
    have hc : r.1 1606 ≤ nI k := by rw [Int32.le_iff_toInt_le, jI_t (by omega)]; omega
    rw [js_133_31 J, if_pos hc] at hB
    rw [if_pos hc] at hQ
    exact ⟨M, r, J, h, q_fr0, cUr_X1_hearAccept_29 hB, qUr_hearsAccept_21 hQ⟩
  | succ m ih =>
    intro k M r hk J h
    have hb := ri_pk h.1
    have hP := ri_P h.1
    have hPN := jN_toInt hP.1
    have hkP : k < jN (r.1 1606) := by omega
    have e1 : nI (k + 1) = nI k + 1 := by rw [jI_1, jI_add (by omega)]
    have hB := cE_X1_hearAccept_29 (n + 31) 0 (nI k) M
    have hQ := qE_hearsAccept_21 0 (nI k) r
    have hc : ¬ r.1 1606 ≤ nI k := by rw [Int32.le_iff_toInt_le, jI_t (by omega)]; omega
    rw [js_133_31 J, if_neg hc, if_pos rfl] at hB
    rw [if_neg hc, if_pos rfl, jI_N (by omega : k < 2147483648)] at hQ
    obtain ⟨pk, a1, a2, a3, a4, a5⟩ := J.pkt hkP
    replace hB := hB.trans (q_ste2 (j_patS J h.1 hkP))
    rw [a1] at hB
    replace hB := hB.trans (q_ops rfl)
    rw [jp_776 a5, jp_778 a5] at hB
    have h57 : ∀ a : q_R, qF_hearsAccept_57 0 (nI k) a = .inl (0, nI (k + 1), a) := fun a => (qE_hearsAccept_57 0 (nI k) a).trans (q_ste (b := nI (k + 1)) e1)
    have h71 : ∀ a : z_Mem, cF_X1_hearAccept_71 (n + 31) 0 (nI k) a = .inl (0, nI (k + 1), a) := fun a => (cE_X1_hearAccept_71 (n + 31) 0 (nI k) a).trans (q_ste (b := nI (k + 1)) e1)
    by_cases c8 : r.2 80 k = 0
    · rw [if_pos c8] at hB hQ
      rw [cUl_X1_hearAccept_29 (hB.trans (h71 M)), qUl_hearsAccept_21 (hQ.trans (h57 r))]
      exact ih (k + 1) M r (by omega) J h
    · rw [if_neg c8] at hB hQ
      by_cases c7 : r.2 76 k = 0
      · rw [if_pos c7] at hB hQ
        have p71 := (h.2.1.2.2.1 k hkP).1
        have J1 := j_leaveV (v := 4) J h.1 (by decide) (by decide) hkP a1 p71 c7 (kP_cov h.2 h.1 hkP c7)
        obtain ⟨sN, a, mm, hs, ham, e3, e4, e5⟩ := ri_by h.1 k
        have hL := q_lands (v := 4) sN a mm (show k < 400 by omega) hs ham e3 e4 e5
        have h1 : kI t s q z (qF_lands (nI k) 4 r) := ⟨(rI_lands J.1 h.1 (by rw [jI_t (by omega)]; omega) (by decide)).1, by
          rw [hL]
          exact kP_lands h.2 hb hkP hs ham e3 e4 e5 c7 (by decide) (fun hh => absurd hh (by decide))⟩
        have F1 : kFR r (qF_lands (nI k) 4 r) := by
          rw [hL]
          exact q_fruA (by decide) (q_frua (by decide) q_fr0)
        generalize cF_X1_leaveFlight (n + 31) (some pk) 4 M = W at hB J1
        replace hB := hB.trans (q_ste (b := W) rfl)
        generalize qF_lands (nI k) 4 r = R at hQ J1 h1 F1
        replace hQ := hQ.trans (q_ste (b := R) rfl)
        rw [cUl_X1_hearAccept_29 (hB.trans (h71 W)), qUl_hearsAccept_21 (hQ.trans (h57 R))]
        obtain ⟨M', r', z1, z2, z3, z4, z5⟩ := ih (k + 1) W R (by rw [F1.1 1606 (by decide)]; omega) J1 h1
        exact ⟨M', r', z1, z2, q_frt F1 z3, z4, z5⟩
      · rw [if_neg c7] at hB hQ
        rw [cUl_X1_hearAccept_29 (hB.trans (h71 M)), qUl_hearsAccept_21 (hQ.trans (h57 r))]
        exact ih (k + 1) M r (by omega) J h
/-- what ACCEPT leaves alone -/
def kFT (r r1 : q_R) : Prop := q_fr [1577] [70, 76, 87, 88, 89, 90, 91] r r1
/-- ACCEPT is heard -/
theorem j_hearAccept (J : JJ n M r TL CL) (h77 : ¬ r.1 1577 = 0) (h : kI t s q z r) {x y : Int32} (hxy : x = 0 ↔ y = 0) (hage : r.2 91 0 = 0 → (r.1 1536).toInt - (r.1 1580).toInt ≤ 140) : JJ n (cF_X1_hearAccept (n + 31) x M) (qF_hearsAccept y r) TL CL ∧ kI t s q z (qF_hearsAccept y r) ∧ kFT r (qF_hearsAccept y r) ∧ (qF_hearsAccept y r).1 1577 = 2 ∧ ¬ (qF_hearsAccept y r).2 91 0 = 0 := by
  have hB := cE_X1_hearAccept (n + 31) x M
  have hQ := qE_hearsAccept y r
  have J1 := J.state (v := 2) (by decide) (by decide) h77 rfl
  have h1 := kI_1577 (v := 2) h (by decide)
  replace hB := hB.trans (q_ste rfl)
  have hM : ∀ g b, g ≠ 135 → z_fi (z_sfi M 135 (n + 31) 2) g b = z_fi M g b := fun g b hg => by rw [zq_fi_sfi, if_neg hg]
  have k645 := (hM 645 (n + 1) (by decide)).trans (js_645_1 J)
  have k139 := (hM 139 (n + 31) (by decide)).trans (js_139_31 J)
  generalize z_sfi M 135 (n + 31) 2 = W at hB J1 k645 k139
  replace hB := hB.trans (q_ste (b := n + 1) (by rw [s_128_31 J1.1]; rfl))
  replace hB := hB.trans (q_ste (b := n + 32) (by rw [s_130_31 J1.1]; rfl))
  rw [k645, k139] at hB
  replace hQ := hQ.trans (q_ste (b := uf r 1577 2) rfl)
  rw [uf_n (show 1536 ≠ 1577 by decide), uf_n (show 1580 ≠ 1577 by decide)] at hQ
  have bn := ri_now h.1
  have b80 := ri_F h.1 (g := 1580) (lo := 0) (hi := 2000) (by decide)
  have bh := h.1.2.2.2.2.2.2.2.2.1.2
  have ev : (r.1 1536 - r.1 1580).toInt = (r.1 1536).toInt - (r.1 1580).toInt := i_subE rfl rfl (by omega) (by omega)
  generalize r.1 1536 - r.1 1580 = v at hB hQ ev
  have J2 := j_measure J1 (v := v)
  have h2 : kI t s q z (qF_measures 0 v (uf r 1577 2)) := ⟨(rI_measures J1.1 h1.1 (by decide) (by omega)).1, kP_measures h1.2 (fun hz => by
    have := hage hz
    omega)⟩
  obtain ⟨F2, -, -, F3⟩ := q_measF (r := uf r 1577 2) (v := v)
  generalize cF_X7_measure (n + 32) v W = V at hB J2
  replace hB := hB.trans (q_ste (b := V) rfl)
  generalize qF_measures 0 v (uf r 1577 2) = R at hQ J2 h2 F2 F3
  replace hQ := hQ.trans (q_ste (b := R) rfl)
  have y7 := J2.2.2.2.1.2.2.2.2.2.2.1
  have FT : kFT r R := q_frt (q_fruf (by decide) q_fr0) (q_frw F2 (by decide) (by decide))
  have e77 : R.1 1577 = 2 := (F2.1 1577 (by decide)).trans uf_e
  replace hB := hB.trans (q_ste (b := nI (jN (z_fi V 134 (n + 31)))) (jI_jN y7.2.1))
  by_cases c : x = 0
  · rw [c] at hB
    rw [hxy.mp c] at hQ ⊢
    rw [c]
    have e0 := q_acc0 h2 (jN (z_fi V 134 (n + 31))) 0 (jN (z_fi V 134 (n + 31))) (by omega) y7.1 y7.2.2
    rw [jI_0] at hQ
    replace hQ := hQ.trans e0
    obtain ⟨M', r', z1, z2, z3, z4, z5⟩ := j_acc29 (jN (R.1 1606) - jN (z_fi V 134 (n + 31))) (jN (z_fi V 134 (n + 31))) V R (by omega) J2 h2
    rw [← jI_0] at hQ
    rw [hB, z4, hQ, z5]
    exact ⟨z1, z2, q_frt FT (q_frw z3 (by decide) (by decide)), by rw [z3.1 1577 (by decide)]; exact e77, by rw [z3.2 91 (by decide)]; exact F3⟩
  · have cy : ¬ y = 0 := fun e => c (hxy.mpr e)
    have e1 := q_acc1 h2 cy (jN (R.1 1606)) 0 (by omega)
    rw [← jI_0] at e1
    rw [e1] at hQ
    have hC := cE_X1_hearAccept_29 (n + 31) x (nI (jN (z_fi V 134 (n + 31)))) V
    have hD : cB_X1_hearAccept_29 (n + 31) x (nI (jN (z_fi V 134 (n + 31)))) V = .inr V := by
      rw [if_neg c] at hC
      rw [hC]
      split <;> rfl
    rw [hB, cUr_X1_hearAccept_29 hD, hQ]
    exact ⟨J2, h2, FT, e77, F3⟩
end JST
