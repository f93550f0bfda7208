/-! ===== THE LIKENESS: what the client keeps to, behind measures, harms, growth ===== -/
section KPB
variable {n : Nat} {M M0 M1 M2 : z_Mem} {r r1 r2 : q_R} {TL CL : List Nat} {t s q z : Nat}
theorem q_frs {A : Type} {a : A} {f : A → q_R} {Fs Rs : List Nat} (h : ∀ b, b = a → q_fr Fs Rs r (f b)) : q_fr Fs Rs r (q_st a f) := h a rfl
/-- what a harm leaves alone, and the first number that harms again -/
def q_hP (r b : q_R) : Prop := q_fr [] [84, 85, 100, 101, 102, 103, 104, 106] r b ∧ b.2 100 0 = r.1 1606 ∧ (b.2 103 0 = r.2 103 0 ∨ b.2 103 0 = r.2 84 0)
theorem q_hPs {A : Type} {a : A} {f : A → q_R} (h : ∀ b, b = a → q_hP r (f b)) : q_hP r (q_st a f) := h a rfl
theorem q_hPu {x j : Nat} {v : Int32} (h : q_hP r r1) (hx : x ∈ [84, 85, 101, 102, 104, 106]) : q_hP r (ua r1 x j v) := by
  have hm : x ∈ [84, 85, 100, 101, 102, 103, 104, 106] := by revert hx; revert x; decide
  have h2 : 100 ≠ x := fun e => by rw [← e] at hx; revert hx; decide
  have h3 : 103 ≠ x := fun e => by rw [← e] at hx; revert hx; decide
  refine ⟨q_frua hm h.1, ?_⟩
  rw [ua_n h2, ua_n h3]; exact h.2
theorem q_hP129 {y : Int32} (h : q_hP r r1) : q_hP r (qF_harms_129 0 84 0 32 y r1) := by
  rw [q_h129]; exact q_hPu (q_hPu h (by decide)) (by decide)
theorem q_hP55 {y : Int32} (h : q_hP r r1) (h84 : r1.2 84 0 = r.2 84 0) : q_hP r (qF_harms_55 0 102 0 y r1) := by
  have e0 : (0 : Int32).toNatClampNeg = 0 := rfl
  rw [qE_harms_55, e0]
  refine q_hPs (fun b1 e1 => q_hPs (fun b2 e2 => q_hPs (fun b3 e3 => ?_)))
  have h1 : q_hP r b1 := by rw [e1]; exact q_hPu h (by decide)
  have h2 : q_hP r b2 := by
    rw [e2]
    refine ⟨q_frua (by decide) h1.1, ?_, Or.inr ?_⟩
    · rw [ua_n (by decide)]; exact h1.2.1
    · rw [ua_e, e1, ua_n (by decide)]; exact h84
  have h3 : q_hP r b3 := by rw [e3]; exact q_hPu h2 (by decide)
  by_cases c : 2 ≤ b3.2 86 0
  · rw [if_pos c]; exact h3
  · rw [if_neg c]
    by_cases c2 : b3.2 86 0 = 0
    · rw [if_pos c2]; exact q_hP129 h3
    · rw [if_neg c2]; exact q_hP129 h3
theorem q_harmsF {num p3 : Int32} : q_fr [] [84, 85, 100, 101, 102, 103, 104, 106] r (qF_harms 0 num p3 r) ∧ (qF_harms 0 num p3 r = r ∨ ((qF_harms 0 num p3 r).2 100 0 = r.1 1606 ∧ ((qF_harms 0 num p3 r).2 103 0 = r.2 103 0 ∨ (qF_harms 0 num p3 r).2 103 0 = r.2 84 0))) := by
  have e0 : (0 : Int32).toNatClampNeg = 0 := rfl
  rw [qE_harms, e0]
  by_cases c : r.2 100 0 ≤ num
  · rw [if_pos c]
    have hm : q_hP r (q_st (ua r 106 (5 : Int32).toNatClampNeg (r.2 106 (5 : Int32).toNatClampNeg + 1)) fun r1 => q_st (ua r1 100 0 (r1.1 1606)) fun r2 => q_st (ua r2 101 0 (r2.1 1536)) fun r3 => if p3 = 0 then qF_harms_55 0 102 0 (-1) r3 else qF_harms_55 0 102 0 num r3) := by
      refine q_hPs (fun b1 e1 => q_hPs (fun b2 e2 => q_hPs (fun b3 e3 => ?_)))
      have f1 : q_fr [] [84, 85, 100, 101, 102, 103, 104, 106] r b1 := by rw [e1]; exact q_frua (by decide) q_fr0
      have h2 : q_hP r b2 := by
        rw [e2]
        refine ⟨q_frua (by decide) f1, ?_, Or.inl ?_⟩
        · rw [ua_e]; exact f1.1 1606 (by decide)
        · rw [ua_n (by decide), e1, ua_n (by decide)]
      have h3 : q_hP r b3 := by rw [e3]; exact q_hPu h2 (by decide)
      have k84 : b3.2 84 0 = r.2 84 0 := by rw [e3, ua_n (by decide), e2, ua_n (by decide), e1, ua_n (by decide)]
      by_cases c3 : p3 = 0
      · rw [if_pos c3]; exact q_hP55 h3 k84
      · rw [if_neg c3]; exact q_hP55 h3 k84
    exact ⟨hm.1, Or.inr hm.2⟩
  · rw [if_neg c]
    exact ⟨q_fr0, Or.inl rfl⟩
theorem kP_harms {num p3 : Int32} (h : kP r) (hP : ¬ r.1 1606 = 0) (h84 : 0 ≤ (r.2 84 0).toInt) : kP (qF_harms 0 num p3 r) := by
  obtain ⟨⟨f1, f2⟩, E⟩ := q_harmsF (r := r) (num := num) (p3 := p3)
  rcases E with E | E
  · rw [E]; exact h
  · generalize qF_harms 0 num p3 r = R at f1 f2 E
    obtain ⟨E, E3⟩ := E
    obtain ⟨a, ⟨b1, b2, b3, b4⟩, c, ⟨d1, d2, d3, d4⟩⟩ := h
    refine ⟨kA_c (fun g hg => f1 g (List.not_mem_nil)) (fun x hx => f2 x (by revert hx; revert x; decide)) a, ⟨?_, ?_, ?_, ?_⟩, kC_c (fun g hg => f1 g (List.not_mem_nil)) (fun x hx => f2 x (by revert hx; revert x; decide)) c, ⟨?_, ?_, ?_, ?_⟩⟩
    · rw [f1 1606 List.not_mem_nil, f2 76 (by decide), f2 94 (by decide)]; exact b1
    · intro _; rw [E]; exact hP
    · rw [f2 86 (by decide)]; exact b3
    · rw [f2 69 (by decide)]; exact b4
    · intro e; rw [E] at e; exact absurd e hP
    · rw [f2 98 (by decide)]; exact d2
    · rw [f2 89 (by decide)]; exact d3
    · refine ⟨?_, by rw [f2 68 (by decide)]; exact d4.2⟩
      rcases E3 with E3 | E3
      · rw [E3]; exact d4.1
      · rw [E3]; exact h84
theorem q_m75 {v w : Int32} : ∃ x y, qF_measures_75 0 v 89 0 w r = ua (ua (ua r 89 0 w) 88 0 x) 87 0 y := by
  have e0 : (0 : Int32).toNatClampNeg = 0 := rfl
  have e105 : ∀ (y1 y2 : Int32) (b : q_R), ∃ x y, qF_measures_105 0 v 88 0 y1 y2 b = ua (ua b 88 0 x) 87 0 y := fun y1 y2 b => by
    have hB := qE_measures_105 0 v 88 0 y1 y2 b
    rw [e0] at hB
    exact ⟨_, _, hB.trans rfl⟩
  have hB := qE_measures_75 0 v 89 0 w r
  rw [e0] at hB
  replace hB := hB.trans (q_ste (b := ua r 89 0 w) rfl)
  replace hB := hB.trans (q_ste (b := v - (ua r 89 0 w).2 87 0 / 8) rfl)
  by_cases c : 0 ≤ v - (ua r 89 0 w).2 87 0 / 8
  · rw [if_pos c] at hB
    obtain ⟨x, y, h⟩ := e105 ((ua r 89 0 w).2 88 0) (v - (ua r 89 0 w).2 87 0 / 8) (ua r 89 0 w)
    exact ⟨x, y, hB.trans h⟩
  · rw [if_neg c] at hB
    obtain ⟨x, y, h⟩ := e105 ((ua r 89 0 w).2 88 0) (-(v - (ua r 89 0 w).2 87 0 / 8)) (ua r 89 0 w)
    exact ⟨x, y, hB.trans h⟩
theorem q_measF {v : Int32} : q_fr [] [87, 88, 89, 90, 91] r (qF_measures 0 v r) ∧ ((qF_measures 0 v r).2 89 0 = v ∨ (¬ r.2 91 0 = 0 ∧ (qF_measures 0 v r).2 89 0 = r.2 89 0)) ∧ (r.2 91 0 = 0 ∨ (qF_measures 0 v r).2 89 0 = r.2 89 0 ∨ v.toInt ≤ (r.2 89 0).toInt) ∧ ¬ (qF_measures 0 v r).2 91 0 = 0 := by
  have e0 : (0 : Int32).toNatClampNeg = 0 := rfl
  have hB := qE_measures 0 v r
  rw [e0] at hB
  replace hB := hB.trans (q_ste (b := ua r 90 0 v) rfl)
  have k91 : (ua r 90 0 v).2 91 0 = r.2 91 0 := by rw [ua_n (by decide)]
  have k89 : (ua r 90 0 v).2 89 0 = r.2 89 0 := by rw [ua_n (by decide)]
  rw [k91, k89] at hB
  have fr : ∀ w x y : Int32, q_fr [] [87, 88, 89, 90, 91] r (ua (ua (ua (ua r 90 0 v) 89 0 w) 88 0 x) 87 0 y) := fun w x y => q_frua (by decide) (q_frua (by decide) (q_frua (by decide) (q_frua (by decide) q_fr0)))
  have g89 : ∀ w x y : Int32, (ua (ua (ua (ua r 90 0 v) 89 0 w) 88 0 x) 87 0 y).2 89 0 = w := fun w x y => by rw [ua_n (by decide), ua_n (by decide), ua_e]
  have g91 : ∀ w x y : Int32, (ua (ua (ua (ua r 90 0 v) 89 0 w) 88 0 x) 87 0 y).2 91 0 = r.2 91 0 := fun w x y => by rw [ua_n (by decide), ua_n (by decide), ua_n (by decide), ua_n (by decide)]
  by_cases c : r.2 91 0 = 0
  · rw [if_pos c] at hB
    replace hB := hB.trans (q_ste (b := ua (ua r 90 0 v) 91 0 1) rfl)
    replace hB := hB.trans (q_ste (b := ua (ua (ua r 90 0 v) 91 0 1) 87 0 (8 * v)) rfl)
    replace hB := hB.trans (q_ste (b := ua (ua (ua (ua r 90 0 v) 91 0 1) 87 0 (8 * v)) 88 0 (2 * v)) rfl)
    replace hB := hB.trans (q_ste (b := ua (ua (ua (ua (ua r 90 0 v) 91 0 1) 87 0 (8 * v)) 88 0 (2 * v)) 89 0 v) rfl)
    rw [hB]
    refine ⟨q_frua (by decide) (q_frua (by decide) (q_frua (by decide) (q_frua (by decide) (q_frua (by decide) q_fr0)))), Or.inl ua_e, Or.inl c, ?_⟩
    rw [ua_n (by decide), ua_n (by decide), ua_n (by decide), ua_e]; decide
  · rw [if_neg c] at hB
    by_cases c2 : r.2 89 0 ≤ v
    · rw [if_pos c2] at hB
      obtain ⟨x, y, h⟩ := q_m75 (r := ua r 90 0 v) (v := v) (w := r.2 89 0)
      rw [hB, h]
      exact ⟨fr _ _ _, Or.inr ⟨c, g89 _ _ _⟩, Or.inr (Or.inl (g89 _ _ _)), by rw [g91]; exact c⟩
    · rw [if_neg c2] at hB
      obtain ⟨x, y, h⟩ := q_m75 (r := ua r 90 0 v) (v := v) (w := v)
      rw [hB, h]
      rw [Int32.le_iff_toInt_le] at c2
      exact ⟨fr _ _ _, Or.inl (g89 _ _ _), Or.inr (Or.inr (by omega)), by rw [g91]; exact c⟩
theorem kP_measures {v : Int32} (h : kP r) (hv : r.2 91 0 = 0 → v.toInt ≤ 140) : kP (qF_measures 0 v r) := by
  obtain ⟨⟨f1, f2⟩, E1, E2, -⟩ := q_measF (r := r) (v := v)
  generalize qF_measures 0 v r = R at f1 f2 E1 E2
  obtain ⟨a, b, c, ⟨d1, d2, d3, d4⟩⟩ := h
  refine ⟨kA_c (fun g hg => f1 g (List.not_mem_nil)) (fun x hx => f2 x (by revert hx; revert x; decide)) a, kB_c (fun g hg => f1 g (List.not_mem_nil)) (fun x hx => f2 x (by revert hx; revert x; decide)) b, kC_c (fun g hg => f1 g (List.not_mem_nil)) (fun x hx => f2 x (by revert hx; revert x; decide)) c, ⟨?_, ?_, ?_, ?_⟩⟩
  · rw [f2 100 (by decide), f2 85 (by decide), f2 84 (by decide), f2 97 (by decide)]; exact d1
  · rw [f2 98 (by decide)]; exact d2
  · rcases E1 with E1 | ⟨E0, E1⟩
    · rcases E2 with E2 | E2 | E2
      · rw [E1]; exact hv E2
      · rw [E2]; exact d3
      · rw [E1]; omega
    · rw [E1]; exact d3
  · rw [f2 103 (by decide), f2 68 (by decide)]; exact d4
theorem q_tbF {v : Int32} : q_fr [] [84, 85, 102] r (q_tb v r) := by
  unfold q_tb
  by_cases c : r.2 102 0 = v
  · rw [if_pos c]; exact q_frua (by decide) (q_frua (by decide) (q_frua (by decide) q_fr0))
  · rw [if_neg c]; exact q_fr0
theorem kP_tb {v : Int32} (h : kP r) (hv : ¬ v = -1) : kP (q_tb v r) := by
  unfold q_tb
  by_cases c0 : r.2 102 0 = v
  · rw [if_pos c0]
    have hn : ∀ (x y : Int32) (k : Nat), k ≠ 84 → k ≠ 85 → k ≠ 102 → (ua (ua (ua r 102 0 (-1)) 84 0 x) 85 0 y).2 k = r.2 k := fun x y k h1 h2 h3 => by rw [ua_n h2, ua_n h1, ua_n h3]
    generalize (if r.2 84 0 < r.2 103 0 then r.2 103 0 else r.2 84 0 : Int32) = x
    generalize (if r.2 85 0 < r.2 104 0 then r.2 104 0 else r.2 85 0 : Int32) = y
    obtain ⟨a, ⟨b1, b2, b3, b4⟩, c, ⟨d1, d2, d3, d4⟩⟩ := h
    have hz : ¬ r.2 100 0 = 0 := b2 (by rw [c0]; exact hv)
    refine ⟨kA_c (r := r) (fun _ _ => rfl) (fun k hk => hn x y k (by revert hk; revert k; decide) (by revert hk; revert k; decide) (by revert hk; revert k; decide)) a, ⟨?_, ?_, ?_, ?_⟩, kC_c (r := r) (fun _ _ => rfl) (fun k hk => hn x y k (by revert hk; revert k; decide) (by revert hk; revert k; decide) (by revert hk; revert k; decide)) c, ⟨?_, ?_, ?_, ?_⟩⟩
    · rw [hn x y 76 (by decide) (by decide) (by decide), hn x y 94 (by decide) (by decide) (by decide)]; exact b1
    · intro _; rw [hn x y 100 (by decide) (by decide) (by decide)]; exact hz
    · rw [hn x y 86 (by decide) (by decide) (by decide)]; exact b3
    · rw [hn x y 69 (by decide) (by decide) (by decide)]; exact b4
    · rw [hn x y 100 (by decide) (by decide) (by decide)]; intro e; exact absurd e hz
    · rw [hn x y 98 (by decide) (by decide) (by decide)]; exact d2
    · rw [hn x y 89 (by decide) (by decide) (by decide)]; exact d3
    · rw [hn x y 103 (by decide) (by decide) (by decide), hn x y 68 (by decide) (by decide) (by decide)]; exact d4
  · rw [if_neg c0]; exact h
end KPB
