/-! ===== THE LIKENESS: the ranges of what was taken ===== -/
section JRUN
variable {n : Nat} {M M0 M1 M2 : z_Mem} {r r1 : q_R} {TL CL : List Nat} {t s q z : Nat} {d : Int} {f : Nat → Int32}
theorem jI_N {k : Nat} (h : k < 2147483648) : (nI k).toNatClampNeg = k := jN_nI h
theorem jI_nle0 {a : Nat} (h : 0 < a) (ha : a < 2147483648) : ¬ nI a ≤ 0 := fun g => by
  have := i_le g (jI_t ha) (show (0 : Int32).toInt = 0 from rfl)
  omega
theorem jI_nlt0 {a : Nat} (ha : a < 2147483648) : ¬ nI a < 0 := fun g => by
  have := i_lt g (jI_t ha) (show (0 : Int32).toInt = 0 from rfl)
  omega
theorem jI_n4 {a : Nat} (h : a < 4) : ¬ (4 : Int32) ≤ nI a := fun g => by
  have := i_le g (show (4 : Int32).toInt = 4 from rfl) (jI_t (by omega))
  omega
/-- 1 behind the greatest below b that is taken (hiT), or isn't (loT); 0: there is none -/
def hiT (f : Nat → Int32) : Nat → Nat
  | 0 => 0
  | b + 1 => if f b = 0 then hiT f b else b + 1
def loT (f : Nat → Int32) : Nat → Nat
  | 0 => 0
  | b + 1 => if f b = 0 then b + 1 else loT f b
theorem hiT_le : ∀ b, hiT f b ≤ b := by
  intro b
  induction b with
  | zero => exact Nat.le_refl _
  | succ b ih => unfold hiT; split <;> omega
theorem loT_le : ∀ b, loT f b ≤ b := by
  intro b
  induction b with
  | zero => exact Nat.le_refl _
  | succ b ih => unfold loT; split <;> omega
theorem hiT_ne : ∀ b, hiT f b ≠ 0 → ¬ f (hiT f b - 1) = 0 := by
  intro b
  induction b with
  | zero => intro h; exact absurd rfl h
  | succ b ih =>
    unfold hiT
    intro h
    split at h
    · rename_i c; rw [if_pos c]; exact ih h
    · rename_i c; rw [if_neg c]; exact c
theorem loT_lt {b : Nat} (h : ¬ f b = 0) : loT f (b + 1) = loT f b := by show (if f b = 0 then b + 1 else loT f b) = _; rw [if_neg h]
theorem hiT_s {b : Nat} (h : f b = 0) : hiT f (b + 1) = hiT f b := by show (if f b = 0 then hiT f b else b + 1) = _; rw [if_pos h]
theorem hiT_s2 {b : Nat} (h : ¬ f b = 0) : hiT f (b + 1) = b + 1 := by show (if f b = 0 then hiT f b else b + 1) = _; rw [if_neg h]
theorem loT_s {b : Nat} (h : f b = 0) : loT f (b + 1) = b + 1 := by show (if f b = 0 then b + 1 else loT f b) = _; rw [if_pos h]
/-- the ranges, from the greatest below b, at most c -/
def runs (f : Nat → Int32) : Nat → Nat → List (Nat × Nat)
  | 0, _ => []
  | c + 1, b => if hiT f b = 0 then [] else (loT f (hiT f b), hiT f b - 1) :: runs f c (loT f (hiT f b))
theorem runs_hi {c b b' : Nat} (h : hiT f b = hiT f b') : runs f c b = runs f c b' := by
  cases c with
  | zero => rfl
  | succ c => show (if hiT f b = 0 then [] else (loT f (hiT f b), hiT f b - 1) :: runs f c (loT f (hiT f b))) = (if hiT f b' = 0 then [] else (loT f (hiT f b'), hiT f b' - 1) :: runs f c (loT f (hiT f b'))); rw [h]
theorem runs_len : ∀ c b, (runs f c b).length ≤ c := by
  intro c
  induction c with
  | zero => intro b; exact Nat.le_refl _
  | succ c ih =>
    intro b
    unfold runs
    split
    · exact Nat.zero_le _
    · exact Nat.succ_le_succ (ih _)
theorem hiT_all {g : Nat} (h : ∀ k, g < k → f k = 0) : ∀ b, g + 1 ≤ b → hiT f b = hiT f (g + 1) := by
  intro b
  induction b with
  | zero => intro h; omega
  | succ b ih =>
    intro hb
    by_cases e : b = g
    · rw [e]
    · rw [hiT_s (h b (by omega))]; exact ih (by omega)
/-- the rows of the ranges are written -/
def q_wr (T : Nat) : Nat → List (Nat × Nat) → q_R → q_R
  | _, [], r => r
  | j, x :: L, r => q_wr T (j + 1) L (ua (ua r 61 (T + 1 + 2 * j) (nI x.1)) 61 (T + 2 + 2 * j) (nI x.2))
theorem q_wr1 {T : Nat} : ∀ (L : List (Nat × Nat)) (j : Nat) (r : q_R), (q_wr T j L r).1 = r.1 ∧ (∀ x, x ≠ 61 → (q_wr T j L r).2 x = r.2 x) ∧ (∀ i, (i < T + 1 + 2 * j ∨ T + 1 + 2 * (j + L.length) ≤ i) → (q_wr T j L r).2 61 i = r.2 61 i) ∧ (∀ k x, L[k]? = some x → (q_wr T j L r).2 61 (T + 1 + 2 * (j + k)) = nI x.1 ∧ (q_wr T j L r).2 61 (T + 2 + 2 * (j + k)) = nI x.2) := by
  intro L
  induction L with
  | nil => intro j r; exact ⟨rfl, fun _ _ => rfl, fun _ _ => rfl, fun k x h => by simp at h⟩
  | cons y L ih =>
    intro j r
    obtain ⟨g1, g2, g3, g4⟩ := ih (j + 1) (ua (ua r 61 (T + 1 + 2 * j) (nI y.1)) 61 (T + 2 + 2 * j) (nI y.2))
    refine ⟨g1, fun x hx => ?_, fun i hi => ?_, fun k x h => ?_⟩
    · refine (g2 x hx).trans ?_
      rw [ua_n hx, ua_n hx]
    · have hl : (y :: L).length = L.length + 1 := rfl
      rw [hl] at hi
      refine (g3 i (by omega)).trans ?_
      rw [ua_i (by omega), ua_i (by omega)]
    · cases k with
      | zero =>
        have e : y = x := Option.some.inj h
        subst e
        rw [Nat.add_zero]
        refine ⟨(g3 (T + 1 + 2 * j) (Or.inl (by omega))).trans ?_, (g3 (T + 2 + 2 * j) (Or.inl (by omega))).trans ?_⟩
        · rw [ua_i (by omega), ua_e]
        · rw [ua_e]
      | succ k =>
        have := g4 k x h
        rw [show j + (k + 1) = j + 1 + k from by omega]
        exact this
theorem j_m1 {b : Nat} (h : b < 2147483648) : nI (b + 1) - 1 = nI b := by
  by_cases h2 : b + 1 < 2147483648
  · rw [jI_1, jI_sub (by omega) h2]; rfl
  · have : b = 2147483647 := by omega
    subst this; decide
theorem j_p1 {b : Nat} (h : b < 2147483647) : nI (b + 1) + (-1) = nI b := by
  refine Int32.toInt_inj.mp ?_
  rw [i_addE (jI_t (by omega)) (show (-1 : Int32).toInt = -1 from rfl) (by omega) (by omega), jI_t (by omega)]; omega
/-- the while within -/
theorem q_ack35 {x1 x2 x4 : Int32} : ∀ k (r : q_R), k < 400 → qF_acknowledges_35 x1 x2 (nI k) x4 r = qF_acknowledges_56 x1 x2 (nI (loT (r.2 63) k)) x4 r := by
  intro k
  induction k with
  | zero =>
    intro r _
    have hB := qE_acknowledges_35 x1 x2 (nI 0) x4 r
    rw [if_pos (by decide)] at hB
    rw [qUr_acknowledges_35 hB]; rfl
  | succ k ih =>
    intro r hk
    have hB := qE_acknowledges_35 x1 x2 (nI (k + 1)) x4 r
    rw [if_neg (jI_nle0 (by omega) (by omega)), j_m1 (by omega), jI_N (by omega)] at hB
    by_cases c : r.2 63 k = 0
    · rw [if_pos c] at hB
      rw [qUr_acknowledges_35 hB, loT_s c]
    · rw [if_neg c] at hB
      replace hB := hB.trans (q_ste (j_p1 (by omega)).symm)
      rw [qUl_acknowledges_35 hB, loT_lt c]
      exact ih r (by omega)
theorem q_ack14 {T : Nat} (hT : T < 60000) : ∀ b' b j (r : q_R), b ≤ b' → b ≤ 400 → j ≤ 4 → qF_acknowledges_14 (nI T) (nI j) (nI b - 1) r = qF_acknowledges_92 (nI T) (nI (j + (runs (r.2 63) (4 - j) b).length)) (q_wr T j (runs (r.2 63) (4 - j) b) r) := by
  intro b'
  induction b' with
  | zero =>
    intro b j r hb _ hj
    have : b = 0 := by omega
    subst this
    have hB := qE_acknowledges_14 (nI T) (nI j) (nI 0 - 1) r
    rw [if_pos (by decide)] at hB
    rw [qUr_acknowledges_14 hB]
    have : runs (r.2 63) (4 - j) 0 = [] := by
      cases h : 4 - j with
      | zero => rfl
      | succ c => rfl
    rw [this]; rfl
  | succ b' ih =>
    intro b j r hb h4 hj
    cases b with
    | zero => exact ih 0 j r (Nat.zero_le _) h4 hj
    | succ b =>
      have hB := qE_acknowledges_14 (nI T) (nI j) (nI (b + 1) - 1) r
      rw [j_m1 (by omega), if_neg (jI_nlt0 (by omega))] at hB
      by_cases c4 : j = 4
      · subst c4
        rw [if_pos (by decide)] at hB
        rw [j_m1 (by omega), qUr_acknowledges_14 hB]; rfl
      · rw [if_neg (jI_n4 (by omega)), jI_N (by omega)] at hB
        rw [j_m1 (by omega)]
        by_cases c : r.2 63 b = 0
        · rw [if_pos c, qE_acknowledges_86] at hB
          replace hB := hB.trans (q_ste (b := nI b - 1) (Int32.sub_eq_add_neg _ _))
          rw [qUl_acknowledges_14 hB, ih b j r (by omega) (by omega) hj, runs_hi (hiT_s c)]
        · rw [if_neg c] at hB
          rw [q_ack35 b r (by omega), qE_acknowledges_56] at hB
          have e1 : (nI T + 1 + 2 * nI j).toNatClampNeg = T + 1 + 2 * j := jN_of (by rw [i_addE (i_addE (jI_t (show T < 2147483648 by omega)) (show (1 : Int32).toInt = 1 from rfl) (by omega) (by omega)) (i_mulE (show (2 : Int32).toInt = 2 from rfl) (jI_t (show j < 2147483648 by omega)) (by omega) (by omega)) (by omega) (by omega)]; omega)
          have e2 : (nI T + 2 + 2 * nI j).toNatClampNeg = T + 2 + 2 * j := jN_of (by rw [i_addE (i_addE (jI_t (show T < 2147483648 by omega)) (show (2 : Int32).toInt = 2 from rfl) (by omega) (by omega)) (i_mulE (show (2 : Int32).toInt = 2 from rfl) (jI_t (show j < 2147483648 by omega)) (by omega) (by omega)) (by omega) (by omega)]; omega)
          rw [e1, e2] at hB
          replace hB := hB.trans (q_ste rfl)
          replace hB := hB.trans (q_ste rfl)
          replace hB := hB.trans (q_ste (b := nI (j + 1)) (by rw [jI_1, jI_add (by show j + 1 < _; omega)]))
          rw [qE_acknowledges_86] at hB
          replace hB := hB.trans (q_ste (b := nI (loT (r.2 63) b) - 1) (Int32.sub_eq_add_neg _ _))
          have hl := loT_le (f := r.2 63) b
          rw [qUl_acknowledges_14 hB, ih (loT (r.2 63) b) (j + 1) _ (by omega) (by omega) (by omega)]
          have e63 : (ua (ua r 61 (T + 1 + 2 * j) (nI (loT (r.2 63) b))) 61 (T + 2 + 2 * j) (nI b)).2 63 = r.2 63 := by rw [ua_n (by decide), ua_n (by decide)]
          rw [e63]
          have er : runs (r.2 63) (4 - j) (b + 1) = (loT (r.2 63) b, b) :: runs (r.2 63) (4 - (j + 1)) (loT (r.2 63) b) := by
            rw [show 4 - j = 4 - (j + 1) + 1 from by omega]
            show (if hiT (r.2 63) (b + 1) = 0 then [] else (loT (r.2 63) (hiT (r.2 63) (b + 1)), hiT (r.2 63) (b + 1) - 1) :: runs (r.2 63) (4 - (j + 1)) (loT (r.2 63) (hiT (r.2 63) (b + 1)))) = _
            rw [hiT_s2 c, if_neg (by omega), loT_lt c]; rfl
          rw [er]
          show qF_acknowledges_92 _ (nI (j + 1 + (runs (r.2 63) (4 - (j + 1)) (loT (r.2 63) b)).length)) _ = qF_acknowledges_92 _ (nI (j + ((runs (r.2 63) (4 - (j + 1)) (loT (r.2 63) b)).length + 1))) _
          rw [show j + 1 + (runs (r.2 63) (4 - (j + 1)) (loT (r.2 63) b)).length = j + ((runs (r.2 63) (4 - (j + 1)) (loT (r.2 63) b)).length + 1) from by omega]
          rfl
end JRUN
