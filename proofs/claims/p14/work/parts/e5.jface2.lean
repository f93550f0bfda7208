/-! ===== THE LIKENESS at the face: write, check, close, connect ===== -/
section JG
variable {n : Nat} {M M0 M1 M2 : z_Mem} {r r1 r2 : q_R} {TL CL : List Nat} {p1 p2 p3 p4 p5 : Int32} {t s q z c w : Nat} {D : Int}
theorem rI_1630 {v : Int32} (I : rf_I t s q z r.1 r.2) : rf_I t s q z (uf r 1630 v).1 (uf r 1630 v).2 := by
  have hF : ∀ y, y ≠ 1630 → (uf r 1630 v).1 y = r.1 y := fun y hy => uf_n hy
  obtain ⟨c1, c2, c3, c4, c5, c6, c7, c8, c9, c10, c11, c12⟩ := I
  exact ⟨c1, c2.congr (fun y hy => hF y (by revert hy; revert y; decide)), c3, c4.congr (fun _ _ => rfl) (fun y hy => hF y (by revert hy; revert y; decide)), c5, c6.congr (fun _ _ => rfl) (fun y hy => hF y (by revert hy; revert y; decide)), c7, c8.congr (fun _ _ => rfl) (fun y hy => hF y (by revert hy; revert y; decide)), c9.congr (fun y hy => hF y (by revert hy; revert y; decide)), c10, c11.congr (fun _ _ => rfl) (fun y hy => hF y (by revert hy; revert y; decide)), c12.congr (fun _ _ => rfl) (fun y hy => hF y (by revert hy; revert y; decide))⟩
theorem q_S1 (h : 0 ≤ p1.toInt ∧ p1.toInt ≤ 3) : qF_in p1 0 3 r = (1, r) := q_in1 (show (0 : Int32).toInt = 0 from rfl) (show (3 : Int32).toInt = 3 from rfl) h
theorem q_S0 (h : ¬ (0 ≤ p1.toInt ∧ p1.toInt ≤ 3)) : qF_in p1 0 3 r = (0, r) := q_in0 (show (0 : Int32).toInt = 0 from rfl) (show (3 : Int32).toInt = 3 from rfl) h
theorem q_T1 (h : 1 ≤ p1.toInt ∧ p1.toInt ≤ 200) : qF_in p1 1 200 r = (1, r) := q_in1 (show (1 : Int32).toInt = 1 from rfl) (show (200 : Int32).toInt = 200 from rfl) h
theorem q_T0 (h : ¬ (1 ≤ p1.toInt ∧ p1.toInt ≤ 200)) : qF_in p1 1 200 r = (0, r) := q_in0 (show (1 : Int32).toInt = 1 from rfl) (show (200 : Int32).toInt = 200 from rfl) h
theorem q_write1 (hp : 0 ≤ p1.toInt ∧ p1.toInt ≤ 3) (h2 : 1 ≤ p2.toInt ∧ p2.toInt ≤ 200) (h : ¬ 200 < r.2 66 (jN p1) + p2) : (qF_write p1 p2 r).2 = ua (uf r 1630 0) 66 (jN p1) (r.2 66 (jN p1) + p2) := by
  rw [qE_write, q_isS, q_ste2 (q_S1 hp), q_ste2 (q_T1 h2), if_neg (by decide), q_ste2 (q_T1 h2), if_neg (by decide), if_neg h, qE_write_49, q_ste2 (q_go1 (by decide) (by decide) (by decide)), if_neg (by decide)]
  rfl
theorem q_write0 (h : ¬ ((0 ≤ p1.toInt ∧ p1.toInt ≤ 3) ∧ (1 ≤ p2.toInt ∧ p2.toInt ≤ 200) ∧ ¬ 200 < r.2 66 (jN p1) + p2)) : ∃ v, (qF_write p1 p2 r).2 = uf r 1630 v := by
  have h48 : ∀ x y, ∃ v, (qF_write_48 p1 p2 x y r).2 = uf r 1630 v := fun x y => by
    obtain ⟨v, hv⟩ := q_go0 (r := r) (a := x) (b := y) (d := 0) (Or.inr (Or.inr rfl))
    exact ⟨v, by rw [qE_write_48, qE_write_49, q_ste2 hv, if_pos rfl]⟩
  rw [qE_write, q_isS]
  by_cases hp : 0 ≤ p1.toInt ∧ p1.toInt ≤ 3
  · rw [q_ste2 (q_S1 hp)]
    by_cases h2 : 1 ≤ p2.toInt ∧ p2.toInt ≤ 200
    · rw [q_ste2 (q_T1 h2), if_neg (by decide), q_ste2 (q_T1 h2), if_neg (by decide)]
      by_cases h3 : 200 < r.2 66 (jN p1) + p2
      · rw [if_pos h3]; exact h48 _ _
      · exact absurd ⟨hp, h2, h3⟩ h
    · rw [q_ste2 (q_T0 h2), if_neg (by decide), q_ste2 (q_T0 h2), if_pos rfl]; exact h48 _ _
  · obtain ⟨y, hy, e⟩ := q_in01 (p1 := p2) (lo := 1) (hi := 200)
    rw [q_ste2 (q_S0 hp), q_ste2 (e r), if_pos rfl]; exact h48 _ _
theorem j_66 (J : JJ n M r TL CL) {s' : Nat} (hs : s' < 4) : z_fi M 1152 (n + (12 + 4 * s')) = r.2 66 s' := by
  rcases jl4 hs with e | e | e | e
  · rw [e]; exact js_1152_12 J
  · rw [e]; exact js_1152_16 J
  · rw [e]; exact js_1152_20 J
  · rw [e]; exact js_1152_24 J
theorem x_write (h : jX n c M r) (hp : 0 ≤ p1.toInt ∧ p1.toInt ≤ 3) (h2 : 1 ≤ p2.toInt ∧ p2.toInt ≤ 200) {st : Nat} (hs : z_ar M (n + 11) (jN p1) = some st) (h3 : ¬ 200 < z_fi M 1152 st + p2) : jX n c (z_sfi M 1152 st (z_fi M 1152 st + p2)) (qF_write p1 p2 r).2 := by
  have n1 := jN_toInt hp.1
  have hs4 : jN p1 < 4 := by omega
  have e := s_str h.1.1 hs4
  rw [hs] at e
  cases e
  rw [j_66 h.1 hs4] at h3 ⊢
  rw [q_write1 hp h2 h3]
  have h0 := jX_1630 h (v := 0)
  exact jX_fr (q_frua (Fs := []) (Rs := [66]) (by decide) q_fr0) h0 (j_ssa h0.1 hs4 (by decide) (by decide)) (by decide) (by decide) (by decide) (by decide) (by decide) (by decide)
theorem nC_put (h : nC c w r) (h0 : 0 ≤ (r.1 1551).toInt) (h1 : (r.1 1551).toInt < 1300) : nC (c + 1) w (uf r 1551 (r.1 1551 + 1)) := by
  obtain ⟨k, H, a1, a2, a3, a4, a5⟩ := h
  refine ⟨k, H, a1, ?_, ?_, ?_, ?_⟩
  · rw [uf_n (by decide)]; exact a2
  · rw [uf_n (by decide), uf_n (by decide), uf_n (by decide), uf_n (by decide)]; exact a3
  · rw [uf_e, uf_n (by decide), jN_add1 h0 (by omega)]; omega
  · have eA2 : nAr (uf r 1551 (r.1 1551 + 1)) = nAr r := nAr_c (uf_n (by decide)) (uf_n (by decide)) rfl
    have eF2 : nFl (uf r 1551 (r.1 1551 + 1)) = nFl r := by unfold nFl; rw [uf_n (by decide)]
    rw [eA2, eF2, uf_e, uf_n (by decide), uf_n (by decide), uf_n (by decide), jN_add1 h0 (by omega)]; omega
/-- something without a packet is put -/
theorem x_puts {p : Nat} (h : jX n c M r) (I : rf_I (t + 1) s q z r.1 r.2) (E : jE n M M1) (hp : p < 2) {m : Nat} (m0 : z_sz M ≤ m) (m1 : m < z_sz M1) {sI i : Int32} (hs : sI = 3 ∨ (sI = 4 ∧ ¬ r.1 1562 = 0)) (kd : j_kS n M1 r m sI i) (h4 : z_fi M1 514 m = 0) (hcl : ¬ r.1 1577 = 0) : jX n (c + 1) (cF_X5_putToServer (n + 1) (nI p) (some m) M1) (qF_puts (nI p) sI i r) := by
  have ns : ¬ sI = 2 := by rcases hs with e | ⟨e, -⟩ <;> rw [e] <;> decide
  obtain ⟨t0, t1⟩ := ri_thg I
  have F := q_putsF (r := r) (p := nI p) (s' := sI) (i := i) ns
  have J1 := j_puts h.1 E I hp m0 m1 kd h4 (fun e => absurd e ns)
  have h' := jX_c h (show c ≤ c + 1 by omega)
  exact jX_up h' J1 (F.1 _ (by decide)) (F.1 _ (by decide)) (F.1 _ (by decide)) (F.2 _ (by decide)) (F.2 _ (by decide)) (kP_fr F (by decide) (by decide) h.2.1) (nP_puts h'.2.2.1 I (Int.le_refl 0) hp (hs.elim (fun e => Or.inr (Or.inr (Or.inl e))) (fun e => Or.inr (Or.inr (Or.inr e)))) hcl (nC_put h.2.2.1.2.2.2.2.1 t0 t1)) (nA_fr F (by decide) h.2.2.2)
theorem q_check1 (hp : 0 ≤ p1.toInt ∧ p1.toInt ≤ 1) (h2 : r.1 1577 = 2) : qF_check p1 r = qF_puts p1 3 0 (uf r 1630 0) := by
  rw [qE_check, q_isP, q_ste2 (q_P1 hp), if_pos h2, q_ste2 (q_go1 (by decide) (by decide) (by decide)), if_neg (by decide)]
  rfl
theorem q_check0 (h : ¬ ((0 ≤ p1.toInt ∧ p1.toInt ≤ 1) ∧ r.1 1577 = 2)) : ∃ v, qF_check p1 r = uf r 1630 v := by
  obtain ⟨x, hx, e⟩ := q_in01 (p1 := p1) (lo := 0) (hi := 1)
  rw [qE_check, q_isP, q_ste2 (e r)]
  by_cases h2 : r.1 1577 = 2
  · have hp : ¬ (0 ≤ p1.toInt ∧ p1.toInt ≤ 1) := fun g => h ⟨g, h2⟩
    have x0 : x = 0 := congrArg Prod.fst ((e r).symm.trans (q_P0 hp))
    obtain ⟨v, hv⟩ := q_go0 (r := r) (a := x) (b := 1) (d := 1) (Or.inl x0)
    exact ⟨v, by rw [if_pos h2, q_ste2 hv, if_pos rfl]⟩
  · obtain ⟨v, hv⟩ := q_go0 (r := r) (a := x) (b := 0) (d := 1) (Or.inr (Or.inl rfl))
    exact ⟨v, by rw [if_neg h2, q_ste2 hv, if_pos rfl]⟩
theorem x_check (h : jX n c M r) (I : rf_I (t + 1) s q z r.1 r.2) (hp : 0 ≤ p1.toInt ∧ p1.toInt ≤ 1) (h2 : z_fi M 135 (n + 31) = 2) : jX n (c + 1) (cF_X5_putToServer (n + 1) p1 (some (z_sz M)) (cF_X4_init (z_sz M) 5 (z_new M 5 8))) (qF_check p1 r) := by
  rw [js_135_31 h.1] at h2
  rw [q_check1 hp h2]
  obtain ⟨E, w1, w2, w3, w4, w5, w6⟩ := j_newm h.1.1 5
  rw [X4F]
  obtain ⟨l1, l2⟩ := u_p hp
  have := x_puts (M1 := z_sfi (z_sfi (z_new M 5 8) 517 (z_sz M) (-1)) 512 (z_sz M) 5) (jX_1630 h (v := 0)) (rI_1630 I) E l1 (Nat.le_refl _) (by rw [w1]; omega) (i := 0) (Or.inl rfl) (Or.inr (Or.inr (Or.inl ⟨rfl, w2, w4⟩))) w5 (by rw [uf_n (by decide), h2]; decide)
  rw [← l2] at this
  exact this
/-- puts doesn't look at the client's state -/
theorem q_puts_uf {p i v : Int32} {g : Nat} (hg : g ≠ 1551) : qF_puts p 4 i (uf r g v) = uf (qF_puts p 4 i r) g v := by
  have n4 : ¬ (4 : Int32) = 2 := by decide
  have h111 : ∀ a : q_R, qF_puts_111 p 4 i (uf a g v) = uf (qF_puts_111 p 4 i a) g v := fun a => by
    rw [qC_puts_111, qC_puts_111, show (uf a g v).1 1551 = a.1 1551 from uf_n (Ne.symm hg)]
    refine Prod.ext (funext fun k => ?_) rfl
    show (if k = 1551 then a.1 1551 + 1 else if k = g then v else a.1 k) = (if k = g then v else if k = 1551 then a.1 1551 + 1 else a.1 k)
    by_cases e : k = 1551
    · rw [if_pos e, if_neg (by omega), if_pos e]
    · rw [if_neg e, if_neg e]
  have h60 : ∀ (x : Int32) (a : q_R), qF_puts_60 p 4 i x (uf a g v) = uf (qF_puts_60 p 4 i x a) g v := fun x a => by
    rw [qE_puts_60, qE_puts_60, if_neg n4, if_neg n4, if_neg n4, if_neg n4]
    by_cases c : x = 0
    · rw [if_pos c, if_pos c]; exact h111 a
    · rw [if_neg c, if_neg c]
  have h35 : ∀ (x : Int32) (a : q_R), qF_puts_35 p 4 i x (uf a g v) = uf (qF_puts_35 p 4 i x a) g v := fun x a => by
    rw [qE_puts_35, qE_puts_35, qE_puts_55, qE_puts_55, uf2]
    by_cases c : x = 0
    · rw [if_pos c, if_pos c]
      by_cases c2 : a.2 51 p.toNatClampNeg < a.2 43 p.toNatClampNeg
      · rw [if_pos c2, if_pos c2]; exact h60 0 a
      · rw [if_neg c2, if_neg c2]; exact h60 1 a
    · rw [if_neg c, if_neg c]; exact h60 1 a
  have hL : qF_puts p 4 i (uf r g v) = (if r.2 45 p.toNatClampNeg = 0 then (if r.2 46 p.toNatClampNeg ≤ 0 then qF_puts_35 p 4 i (r.2 45 p.toNatClampNeg) (uf r g v) else qF_puts_35 p 4 i 1 (uf (ua r 46 p.toNatClampNeg (r.2 46 p.toNatClampNeg - 1)) g v)) else qF_puts_35 p 4 i (r.2 45 p.toNatClampNeg) (uf r g v)) := by
    rw [qE_puts]; rfl
  have hR : qF_puts p 4 i r = (if r.2 45 p.toNatClampNeg = 0 then (if r.2 46 p.toNatClampNeg ≤ 0 then qF_puts_35 p 4 i (r.2 45 p.toNatClampNeg) r else qF_puts_35 p 4 i 1 (ua r 46 p.toNatClampNeg (r.2 46 p.toNatClampNeg - 1))) else qF_puts_35 p 4 i (r.2 45 p.toNatClampNeg) r) := by
    rw [qE_puts]; rfl
  rw [hL, hR]
  by_cases c : r.2 45 p.toNatClampNeg = 0
  · rw [if_pos c, if_pos c]
    by_cases c2 : r.2 46 p.toNatClampNeg ≤ 0
    · rw [if_pos c2, if_pos c2]; exact h35 _ _
    · rw [if_neg c2, if_neg c2]; exact h35 _ _
  · rw [if_neg c, if_neg c]; exact h35 _ _
theorem q_close1 (h2 : r.1 1577 = 2) (h83 : r.1 1583 = 0) : qF_close r = qF_puts 0 4 0 (uf (uf (uf r 1630 0) 1577 3) 1582 (r.1 1536)) := by
  have n1 : ¬ (uf r 1630 0).1 1583 = 1 := by rw [uf_n (by decide), h83]; decide
  have hP : qF_puts 0 4 0 (uf (uf (uf r 1630 0) 1577 3) 1582 (r.1 1536)) = uf (uf (qF_puts 0 4 0 (uf r 1630 0)) 1577 3) 1582 (r.1 1536) := by
    rw [q_puts_uf (g := 1582) (by decide), q_puts_uf (g := 1577) (by decide)]
  have e36 : (uf (qF_puts 0 4 0 (uf r 1630 0)) 1577 3).1 1536 = r.1 1536 := by
    rw [uf_n (by decide), (q_putsF (by decide)).1 1536 (by decide)]; rfl
  rw [hP, qE_close, if_pos h2, qE_close_14, q_ste2 (q_go1 (by decide) (by decide) (by decide)), if_neg (by decide), if_neg n1, qE_close_36]
  generalize qF_puts 0 4 0 (uf r 1630 0) = R at e36 ⊢
  refine (q_ste (b := R) rfl).trans ((q_ste (b := uf R 1577 3) rfl).trans ?_)
  rw [e36]
  rfl
theorem q_close0 (h2 : ¬ r.1 1577 = 2) : ∃ v, qF_close r = uf r 1630 v := by
  obtain ⟨v, hv⟩ := q_go0 (r := r) (a := 0) (b := 1) (d := 1) (Or.inl rfl)
  exact ⟨v, by rw [qE_close, if_neg h2, qE_close_14, q_ste2 hv, if_pos rfl]⟩
end JG
