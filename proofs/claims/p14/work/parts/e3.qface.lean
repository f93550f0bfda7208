/-! ===== THE REFERENCE: its face, what it does ===== -/
section QF
variable {n : Nat} {M M0 M1 M2 : z_Mem} {r r1 r2 : q_R} {TL CL : List Nat} {p1 p2 p3 p4 p5 : Int32} {t s q z c w : Nat}
theorem q_in1 {lo hi : Int32} {a b : Int} (ha : lo.toInt = a) (hb : hi.toInt = b) (h : a ≤ p1.toInt ∧ p1.toInt ≤ b) : qF_in p1 lo hi r = (1, r) := by
  rw [qE_in, if_neg (by rw [Int32.lt_iff_toInt_lt]; omega), if_neg (by rw [Int32.lt_iff_toInt_lt]; omega)]
theorem q_in0 {lo hi : Int32} {a b : Int} (ha : lo.toInt = a) (hb : hi.toInt = b) (h : ¬ (a ≤ p1.toInt ∧ p1.toInt ≤ b)) : qF_in p1 lo hi r = (0, r) := by
  rw [qE_in]
  by_cases c : p1 < lo
  · rw [if_pos c]
  · rw [if_neg c, if_pos (by rw [Int32.lt_iff_toInt_lt] at c ⊢; omega)]
theorem q_in01 {lo hi : Int32} : ∃ x : Int32, (x = 0 ∨ x = 1) ∧ ∀ r : q_R, qF_in p1 lo hi r = (x, r) := by
  by_cases c : p1 < lo
  · exact ⟨0, Or.inl rfl, fun r => by rw [qE_in, if_pos c]⟩
  · by_cases c2 : hi < p1
    · exact ⟨0, Or.inl rfl, fun r => by rw [qE_in, if_neg c, if_pos c2]⟩
    · exact ⟨1, Or.inr rfl, fun r => by rw [qE_in, if_neg c, if_neg c2]⟩
theorem q_P1 (h : 0 ≤ p1.toInt ∧ p1.toInt ≤ 1) : qF_in p1 0 1 r = (1, r) := q_in1 (show (0 : Int32).toInt = 0 from rfl) (show (1 : Int32).toInt = 1 from rfl) h
theorem q_P0 (h : ¬ (0 ≤ p1.toInt ∧ p1.toInt ≤ 1)) : qF_in p1 0 1 r = (0, r) := q_in0 (show (0 : Int32).toInt = 0 from rfl) (show (1 : Int32).toInt = 1 from rfl) h
theorem q_isP (r : q_R) : qF_isPath p1 r = qF_in p1 0 1 r := by
  rw [qE_isPath]
  rfl
theorem q_isS (r : q_R) : qF_isStream p1 r = qF_in p1 0 3 r := by
  rw [qE_isStream]
  rfl
theorem q_go1 {a b d : Int32} (ha : ¬ a = 0) (hb : ¬ b = 0) (hd : ¬ d = 0) : qF_goes a b d r = (1, uf r 1630 0) := by
  rw [qE_goes, if_neg ha, if_neg hb, if_neg hd]
  refine (q_ste rfl).trans (if_pos uf_e)
theorem q_go0 {a b d : Int32} (h : a = 0 ∨ b = 0 ∨ d = 0) : ∃ v, qF_goes a b d r = (0, uf r 1630 v) := by
  rw [qE_goes]
  by_cases ha : a = 0
  · rw [if_pos ha]
    exact ⟨1, (q_ste rfl).trans (if_neg (by rw [uf_e]; decide))⟩
  · rw [if_neg ha]
    by_cases hb : b = 0
    · rw [if_pos hb]
      exact ⟨2, (q_ste rfl).trans (if_neg (by rw [uf_e]; decide))⟩
    · have hd : d = 0 := h.elim (fun x => absurd x ha) (fun x => x.elim (fun x => absurd x hb) id)
      rw [if_neg hb, if_pos hd]
      exact ⟨3, (q_ste rfl).trans (if_neg (by rw [uf_e]; decide))⟩
theorem q_sp51 {x : Int32} : ∃ v, qF_setPath_51 p1 p2 p3 p4 p5 x r = uf r 1630 v := by
  obtain ⟨v, h⟩ := q_go0 (r := r) (a := x) (b := 0) (d := 1) (Or.inr (Or.inl rfl))
  refine ⟨v, ?_⟩
  rw [qE_setPath_51, qE_setPath_52, q_ste2 h, if_pos rfl]
theorem q_setPath1 (hp : 0 ≤ p1.toInt ∧ p1.toInt ≤ 1) (hR : rf_spR p2 p3 p4 p5) : qF_setPath p1 p2 p3 p4 p5 r = ua (ua (ua (ua (uf r 1630 0) 41 (jN p1) p2) 42 (jN p1) p3) 43 (jN p1) p4) 44 (jN p1) p5 := by
  obtain ⟨h2, h3, h4, h5⟩ := hR
  rw [qE_setPath, q_isP, q_ste2 (q_P1 hp), q_ste2 (q_in1 (show (1 : Int32).toInt = 1 from rfl) (show (30 : Int32).toInt = 30 from rfl) h2), if_neg (by decide), q_ste2 (q_in1 (show (1 : Int32).toInt = 1 from rfl) (show (9 : Int32).toInt = 9 from rfl) h3), if_neg (by decide), q_ste2 (q_in1 (show (1 : Int32).toInt = 1 from rfl) (show (30 : Int32).toInt = 30 from rfl) h4), if_neg (by decide), q_ste2 (q_in1 (show (0 : Int32).toInt = 0 from rfl) (show (30 : Int32).toInt = 30 from rfl) h5), if_neg (by decide), qE_setPath_52, q_ste2 (q_go1 (by decide) (by decide) (by decide)), if_neg (by decide)]
  rfl
theorem q_setPath0 (h : ¬ ((0 ≤ p1.toInt ∧ p1.toInt ≤ 1) ∧ rf_spR p2 p3 p4 p5)) : ∃ v, qF_setPath p1 p2 p3 p4 p5 r = uf r 1630 v := by
  obtain ⟨x, hx, e⟩ := q_in01 (p1 := p1) (lo := 0) (hi := 1)
  rw [qE_setPath, q_isP, q_ste2 (e r)]
  by_cases h2 : 1 ≤ p2.toInt ∧ p2.toInt ≤ 30
  · rw [q_ste2 (q_in1 (show (1 : Int32).toInt = 1 from rfl) (show (30 : Int32).toInt = 30 from rfl) h2), if_neg (by decide)]
    by_cases h3 : 1 ≤ p3.toInt ∧ p3.toInt ≤ 9
    · rw [q_ste2 (q_in1 (show (1 : Int32).toInt = 1 from rfl) (show (9 : Int32).toInt = 9 from rfl) h3), if_neg (by decide)]
      by_cases h4 : 1 ≤ p4.toInt ∧ p4.toInt ≤ 30
      · rw [q_ste2 (q_in1 (show (1 : Int32).toInt = 1 from rfl) (show (30 : Int32).toInt = 30 from rfl) h4), if_neg (by decide)]
        by_cases h5 : 0 ≤ p5.toInt ∧ p5.toInt ≤ 30
        · rw [q_ste2 (q_in1 (show (0 : Int32).toInt = 0 from rfl) (show (30 : Int32).toInt = 30 from rfl) h5), if_neg (by decide), qE_setPath_52]
          have hp : ¬ (0 ≤ p1.toInt ∧ p1.toInt ≤ 1) := fun g => h ⟨g, h2, h3, h4, h5⟩
          have e0 := (e r).symm.trans (q_P0 hp)
          have x0 : x = 0 := congrArg Prod.fst e0
          obtain ⟨v, hv⟩ := q_go0 (r := r) (a := x) (b := 1) (d := 1) (Or.inl x0)
          exact ⟨v, by rw [q_ste2 hv, if_pos rfl]⟩
        · rw [q_ste2 (q_in0 (show (0 : Int32).toInt = 0 from rfl) (show (30 : Int32).toInt = 30 from rfl) h5), if_pos rfl]; exact q_sp51
      · rw [q_ste2 (q_in0 (show (1 : Int32).toInt = 1 from rfl) (show (30 : Int32).toInt = 30 from rfl) h4), if_pos rfl]; exact q_sp51
    · rw [q_ste2 (q_in0 (show (1 : Int32).toInt = 1 from rfl) (show (9 : Int32).toInt = 9 from rfl) h3), if_pos rfl]; exact q_sp51
  · rw [q_ste2 (q_in0 (show (1 : Int32).toInt = 1 from rfl) (show (30 : Int32).toInt = 30 from rfl) h2), if_pos rfl]; exact q_sp51
theorem q_setUp1 (hp : 0 ≤ p1.toInt ∧ p1.toInt ≤ 1) : (qF_setUp p1 p2 r).2 = ua (uf r 1630 0) 45 (jN p1) (if p2 = 0 then 1 else 0) := by
  have h29 : ∀ t0, (qF_setUp_29 p1 p2 t0 (uf r 1630 0)).2 = ua (uf r 1630 0) 45 (jN p1) (if p2 = 0 then 1 else 0) := fun t0 => by
    rw [qE_setUp_29]
    by_cases c : p2 = 0
    · rw [if_pos c, if_pos c]; rfl
    · rw [if_neg c, if_neg c]; rfl
  rw [qE_setUp, q_isP, q_ste2 (q_P1 hp), q_ste2 (q_go1 (by decide) (by decide) (by decide)), if_neg (by decide)]
  split
  · exact h29 1
  · exact h29 0
theorem q_setUp0 (hp : ¬ (0 ≤ p1.toInt ∧ p1.toInt ≤ 1)) : ∃ v, (qF_setUp p1 p2 r).2 = uf r 1630 v := by
  obtain ⟨v, hv⟩ := q_go0 (r := r) (a := 0) (b := 1) (d := 1) (Or.inl rfl)
  rw [qE_setUp, q_isP, q_ste2 (q_P0 hp), q_ste2 hv, if_pos rfl]
  exact ⟨v, rfl⟩
theorem q_lose1 (hp : 0 ≤ p1.toInt ∧ p1.toInt ≤ 1) (h3 : 0 ≤ p3.toInt ∧ p3.toInt ≤ 20) : qF_lose p1 p2 p3 r = ua (uf r 1630 0) (if p2 = 0 then 47 else 46) (jN p1) p3 := by
  rw [qE_lose, q_isP, q_ste2 (q_P1 hp), q_ste2 (q_in1 (show (0 : Int32).toInt = 0 from rfl) (show (20 : Int32).toInt = 20 from rfl) h3), q_ste2 (q_go1 (by decide) (by decide) (by decide)), if_neg (by decide)]
  by_cases c : p2 = 0
  · rw [if_pos c, if_pos c]; rfl
  · rw [if_neg c, if_neg c]; rfl
theorem q_2in0 {lo hi : Int32} {a b : Int} (ha : lo.toInt = a) (hb : hi.toInt = b) {x y : Int32} (e : ∀ r, qF_in p1 0 1 r = (x, r)) (e2 : ∀ r, qF_in p2 lo hi r = (y, r)) (h : ¬ ((0 ≤ p1.toInt ∧ p1.toInt ≤ 1) ∧ (a ≤ p2.toInt ∧ p2.toInt ≤ b))) : x = 0 ∨ y = 0 := by
  by_cases hp : 0 ≤ p1.toInt ∧ p1.toInt ≤ 1
  · have := (e2 (fun _ => 0, fun _ _ => 0)).symm.trans (q_in0 ha hb (fun g => h ⟨hp, g⟩))
    exact Or.inr (congrArg Prod.fst this)
  · have := (e (fun _ => 0, fun _ _ => 0)).symm.trans (q_P0 hp)
    exact Or.inl (congrArg Prod.fst this)
theorem q_lose0 (h : ¬ ((0 ≤ p1.toInt ∧ p1.toInt ≤ 1) ∧ (0 ≤ p3.toInt ∧ p3.toInt ≤ 20))) : ∃ v, qF_lose p1 p2 p3 r = uf r 1630 v := by
  obtain ⟨x, hx, e⟩ := q_in01 (p1 := p1) (lo := 0) (hi := 1)
  obtain ⟨y, hy, e2⟩ := q_in01 (p1 := p3) (lo := 0) (hi := 20)
  have h0 := q_2in0 (show (0 : Int32).toInt = 0 from rfl) (show (20 : Int32).toInt = 20 from rfl) e e2 h
  obtain ⟨v, hv⟩ := q_go0 (r := r) (a := x) (b := y) (d := 1) (h0.elim Or.inl (fun h => Or.inr (Or.inl h)))
  rw [qE_lose, q_isP, q_ste2 (e r), q_ste2 (e2 r), q_ste2 hv, if_pos rfl]
  exact ⟨v, rfl⟩
theorem q_late1 (hp : 0 ≤ p1.toInt ∧ p1.toInt ≤ 1) (h2 : 0 ≤ p2.toInt ∧ p2.toInt ≤ 20) (h3 : 0 ≤ p3.toInt ∧ p3.toInt ≤ 50) : qF_late p1 p2 p3 r = ua (ua (uf r 1630 0) 48 (jN p1) p2) 49 (jN p1) p3 := by
  rw [qE_late, q_isP, q_ste2 (q_P1 hp), q_ste2 (q_in1 (show (0 : Int32).toInt = 0 from rfl) (show (20 : Int32).toInt = 20 from rfl) h2), if_neg (by decide), q_ste2 (q_in1 (show (0 : Int32).toInt = 0 from rfl) (show (50 : Int32).toInt = 50 from rfl) h3), if_neg (by decide), qE_late_30, q_ste2 (q_go1 (by decide) (by decide) (by decide)), if_neg (by decide)]
  rfl
theorem q_late0 (h : ¬ ((0 ≤ p1.toInt ∧ p1.toInt ≤ 1) ∧ (0 ≤ p2.toInt ∧ p2.toInt ≤ 20) ∧ (0 ≤ p3.toInt ∧ p3.toInt ≤ 50))) : ∃ v, qF_late p1 p2 p3 r = uf r 1630 v := by
  have h29 : ∀ x, ∃ v, qF_late_29 p1 p2 p3 x r = uf r 1630 v := fun x => by
    obtain ⟨v, hv⟩ := q_go0 (r := r) (a := x) (b := 0) (d := 1) (Or.inr (Or.inl rfl))
    exact ⟨v, by rw [qE_late_29, qE_late_30, q_ste2 hv, if_pos rfl]⟩
  obtain ⟨x, hx, e⟩ := q_in01 (p1 := p1) (lo := 0) (hi := 1)
  rw [qE_late, q_isP, q_ste2 (e r)]
  by_cases h2 : 0 ≤ p2.toInt ∧ p2.toInt ≤ 20
  · rw [q_ste2 (q_in1 (show (0 : Int32).toInt = 0 from rfl) (show (20 : Int32).toInt = 20 from rfl) h2), if_neg (by decide)]
    by_cases h3 : 0 ≤ p3.toInt ∧ p3.toInt ≤ 50
    · rw [q_ste2 (q_in1 (show (0 : Int32).toInt = 0 from rfl) (show (50 : Int32).toInt = 50 from rfl) h3), if_neg (by decide), qE_late_30]
      have hp : ¬ (0 ≤ p1.toInt ∧ p1.toInt ≤ 1) := fun g => h ⟨g, h2, h3⟩
      have x0 : x = 0 := congrArg Prod.fst ((e r).symm.trans (q_P0 hp))
      obtain ⟨v, hv⟩ := q_go0 (r := r) (a := x) (b := 1) (d := 1) (Or.inl x0)
      exact ⟨v, by rw [q_ste2 hv, if_pos rfl]⟩
    · rw [q_ste2 (q_in0 (show (0 : Int32).toInt = 0 from rfl) (show (50 : Int32).toInt = 50 from rfl) h3), if_pos rfl]; exact h29 x
  · rw [q_ste2 (q_in0 (show (0 : Int32).toInt = 0 from rfl) (show (20 : Int32).toInt = 20 from rfl) h2), if_pos rfl]; exact h29 x
theorem q_setCookies1 : (qF_setCookies p1 r).2 = uf (uf r 1630 0) 1563 p1 := by
  rw [qE_setCookies]; rfl
theorem q_setWay1 (hp : 0 ≤ p1.toInt ∧ p1.toInt ≤ 1) (h2 : 0 ≤ p2.toInt ∧ p2.toInt ≤ 2) : (qF_setWay p1 p2 r).2 = ua (uf r 1630 0) 86 (jN p1) p2 := by
  rw [qE_setWay, q_isP, q_ste2 (q_P1 hp), q_ste2 (q_in1 (show (0 : Int32).toInt = 0 from rfl) (show (2 : Int32).toInt = 2 from rfl) h2), q_ste2 (q_go1 (by decide) (by decide) (by decide)), if_neg (by decide)]
  rfl
theorem q_setWay0 (h : ¬ ((0 ≤ p1.toInt ∧ p1.toInt ≤ 1) ∧ (0 ≤ p2.toInt ∧ p2.toInt ≤ 2))) : ∃ v, (qF_setWay p1 p2 r).2 = uf r 1630 v := by
  obtain ⟨x, hx, e⟩ := q_in01 (p1 := p1) (lo := 0) (hi := 1)
  obtain ⟨y, hy, e2⟩ := q_in01 (p1 := p2) (lo := 0) (hi := 2)
  have h0 := q_2in0 (show (0 : Int32).toInt = 0 from rfl) (show (2 : Int32).toInt = 2 from rfl) e e2 h
  obtain ⟨v, hv⟩ := q_go0 (r := r) (a := x) (b := y) (d := 1) (h0.elim Or.inl (fun h => Or.inr (Or.inl h)))
  rw [qE_setWay, q_isP, q_ste2 (e r), q_ste2 (e2 r), q_ste2 hv, if_pos rfl]
  exact ⟨v, rfl⟩
theorem q_use1 (hp : 0 ≤ p1.toInt ∧ p1.toInt ≤ 2) (h0 : ¬ p1 = 1 → ¬ r.2 92 0 = 0) (h1 : ¬ p1 = 0 → ¬ r.2 92 1 = 0) : qF_use p1 r = (r.1 1583, uf (uf r 1630 0) 1583 p1) := by
  have h45 : qF_use_45 p1 1 1 r = (r.1 1583, uf (uf r 1630 0) 1583 p1) := by
    rw [qE_use_45, q_ste2 (q_go1 (by decide) (by decide) (by decide)), if_neg (by decide)]
    rfl
  have h27 : qF_use_27 p1 1 r = (r.1 1583, uf (uf r 1630 0) 1583 p1) := by
    rw [qE_use_27]
    by_cases c : p1 = 0
    · rw [if_pos c, qE_use_40]; exact h45
    · rw [if_neg c, if_neg (show ¬ r.2 92 (1 : Int32).toNatClampNeg = 0 from h1 c), qE_use_40]; exact h45
  rw [qE_use, q_ste2 (q_in1 (show (0 : Int32).toInt = 0 from rfl) (show (2 : Int32).toInt = 2 from rfl) hp), if_neg (by decide)]
  by_cases c : p1 = 1
  · rw [if_pos c]; exact h27
  · rw [if_neg c, if_neg (show ¬ r.2 92 (0 : Int32).toNatClampNeg = 0 from h0 c)]; exact h27
theorem q_useX (hp : ¬ (0 ≤ p1.toInt ∧ p1.toInt ≤ 2)) : qF_use p1 r = (0, uf r 1630 1) := by
  rw [qE_use, q_ste2 (q_in0 (show (0 : Int32).toInt = 0 from rfl) (show (2 : Int32).toInt = 2 from rfl) hp), if_pos rfl, qE_use_44, qE_use_45, qE_goes, if_pos rfl]
  rfl
theorem q_useS (hp : 0 ≤ p1.toInt ∧ p1.toInt ≤ 2) (h : ¬ ((¬ p1 = 1 → ¬ r.2 92 0 = 0) ∧ (¬ p1 = 0 → ¬ r.2 92 1 = 0))) : qF_use p1 r = (0, uf r 1630 2) := by
  have h44 : qF_use_44 p1 1 r = (0, uf r 1630 2) := by
    rw [qE_use_44, qE_use_45, qE_goes, if_neg (by decide), if_pos rfl]
    rfl
  rw [qE_use, q_ste2 (q_in1 (show (0 : Int32).toInt = 0 from rfl) (show (2 : Int32).toInt = 2 from rfl) hp), if_neg (by decide)]
  have h27 : (¬ p1 = 0 ∧ r.2 92 1 = 0) → qF_use_27 p1 1 r = (0, uf r 1630 2) := fun g => by
    rw [qE_use_27, if_neg g.1, if_pos (show r.2 92 (1 : Int32).toNatClampNeg = 0 from g.2)]; exact h44
  by_cases c : p1 = 1
  · rw [if_pos c]
    refine h27 ⟨by rw [c]; decide, ?_⟩
    by_cases c1 : r.2 92 1 = 0
    · exact c1
    · exact absurd ⟨fun g => absurd c g, fun _ => c1⟩ h
  · rw [if_neg c]
    by_cases c0 : r.2 92 0 = 0
    · rw [if_pos (show r.2 92 (0 : Int32).toNatClampNeg = 0 from c0)]; exact h44
    · rw [if_neg (show ¬ r.2 92 (0 : Int32).toNatClampNeg = 0 from c0)]
      refine h27 ⟨fun c2 => ?_, ?_⟩
      · exact h ⟨fun _ => c0, fun g => absurd c2 g⟩
      · by_cases c1 : r.2 92 1 = 0
        · exact c1
        · exact absurd ⟨fun _ => c0, fun _ => c1⟩ h
end QF
