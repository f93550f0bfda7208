/-! ===== THE LIKENESS: losses by order and by time, the reference's side ===== -/
section JLT
variable {n : Nat} {M M0 M1 M2 : z_Mem} {r r1 r2 : q_R} {TL CL : List Nat} {t s q z : Nat}
/-- lost by order; by time -/
def pO (r : q_R) (k : Nat) : Prop := ¬ r.2 94 0 < r.2 82 k + 3
def kW (r : q_R) : Int32 := if 1 < 9 * (if r.2 87 0 / 8 < r.2 90 0 then r.2 90 0 else r.2 87 0 / 8) / 8 then 9 * (if r.2 87 0 / 8 < r.2 90 0 then r.2 90 0 else r.2 87 0 / 8) / 8 else 1
def pT (r : q_R) (k : Nat) : Prop := ¬ r.2 94 0 ≤ r.2 82 k ∧ ¬ r.1 1536 - r.2 72 k < kW r
/-- all in flight in c, c + 1 .. c + m - 1 are lost -/
noncomputable def q_lt : Nat → Nat → q_R → q_R
  | 0, _, r => r
  | m + 1, c, r => q_lt m (c + 1) (if r.2 76 c = 0 then qF_loses (nI c) r else r)
/-- all that a step of losses keeps -/
def kI (t s q z : Nat) (r : q_R) : Prop := rf_I t s q z r.1 r.2 ∧ kP r
/-- what losses leave alone -/
def kF (r r1 : q_R) : Prop := q_fr [] [70, 76, 84, 85, 100, 101, 102, 103, 104, 106] r r1
theorem kF_t (h : kF r r1) (k : kF r1 r2) : kF r r2 := q_frt h k
theorem pO_c (h : kF r r1) {k : Nat} : pO r1 k ↔ pO r k := by
  unfold pO
  rw [h.2 94 (by decide), h.2 82 (by decide)]
theorem pT_c (h : kF r r1) {k : Nat} : pT r1 k ↔ pT r k := by
  unfold pT kW
  rw [h.2 94 (by decide), h.2 82 (by decide), h.2 72 (by decide), h.2 87 (by decide), h.2 90 (by decide), h.1 1536 (by decide)]
theorem pO_94 (K : kP r) (I : rf_I t s q z r.1 r.2) {k : Nat} (hk : k < jN (r.1 1606)) (h : pO r k) : (k : Int) < (r.2 94 0).toInt := by
  have hb := ri_pk I
  unfold pO at h
  rw [(K.1.2.2.1 k hk).2, Int32.lt_iff_toInt_lt, i_addE (jI_t (show k < 2147483648 by omega)) (show (3 : Int32).toInt = 3 from rfl) (by omega) (by omega)] at h
  omega
theorem pT_94 (K : kP r) (I : rf_I t s q z r.1 r.2) {k : Nat} (hk : k < jN (r.1 1606)) (h : pT r k) : (k : Int) < (r.2 94 0).toInt := by
  have hb := ri_pk I
  have h := h.1
  rw [(K.1.2.2.1 k hk).2, Int32.le_iff_toInt_le, jI_t (show k < 2147483648 by omega)] at h
  omega
theorem pO_dn (K : kP r) (I : rf_I t s q z r.1 r.2) {j k : Nat} (hj : j ≤ k) (hk : k < jN (r.1 1606)) (h : pO r k) : pO r j := by
  have hb := ri_pk I
  unfold pO at h ⊢
  rw [(K.1.2.2.1 k hk).2, Int32.lt_iff_toInt_lt, i_addE (jI_t (show k < 2147483648 by omega)) (show (3 : Int32).toInt = 3 from rfl) (by omega) (by omega)] at h
  rw [(K.1.2.2.1 j (by omega)).2, Int32.lt_iff_toInt_lt, i_addE (jI_t (show j < 2147483648 by omega)) (show (3 : Int32).toInt = 3 from rfl) (by omega) (by omega)]
  omega
theorem pT_dn (K : kP r) (I : rf_I t s q z r.1 r.2) {j k : Nat} (hj : j ≤ k) (hk : k < jN (r.1 1606)) (h : pT r k) : pT r j := by
  have hb := ri_pk I
  obtain ⟨h1, h2⟩ := h
  have hn := ri_now I
  have b1 := ri_72 I k
  have b2 := ri_72 I j
  have b3 := K.1.2.2.2.2.1 j k hj hk
  refine ⟨?_, ?_⟩
  · rw [(K.1.2.2.1 k hk).2, Int32.le_iff_toInt_le, jI_t (show k < 2147483648 by omega)] at h1
    rw [(K.1.2.2.1 j (by omega)).2, Int32.le_iff_toInt_le, jI_t (show j < 2147483648 by omega)]
    omega
  · rw [Int32.lt_iff_toInt_lt, i_subE rfl rfl (by omega) (by omega)] at h2 ⊢
    omega
/-- where a property that goes down ends -/
theorem k_thr {p : Nat → Prop} {P : Nat} (h : ∀ j k, j ≤ k → k < P → p k → p j) : ∃ m, m ≤ P ∧ ∀ k, k < P → (p k ↔ k < m) := by
  induction P with
  | zero => exact ⟨0, Nat.le_refl _, fun k hk => absurd hk (Nat.not_lt_zero _)⟩
  | succ P ih =>
    obtain ⟨m, h1, h2⟩ := ih (fun j k hj hk hp => h j k hj (by omega) hp)
    rcases Classical.em (p P) with c | c
    · exact ⟨P + 1, Nat.le_refl _, fun k hk => ⟨fun _ => hk, fun _ => h k P (by omega) (by omega) c⟩⟩
    · refine ⟨m, by omega, fun k hk => ?_⟩
      by_cases e : k = P
      · rw [e]
        exact ⟨fun hp => absurd hp c, fun hp => by omega⟩
      · exact h2 k (by omega)
theorem kI_loses (S : y_S n M) (h : kI t s q z r) {i : Nat} (hi : i < jN (r.1 1606)) (h76 : r.2 76 i = 0) (hl : (i : Int) < (r.2 94 0).toInt) : kI t s q z (qF_loses (nI i) r) ∧ kF r (qF_loses (nI i) r) ∧ (qF_loses (nI i) r).2 76 = (ua r 76 i 2).2 76 := by
  have hb := ri_pk h.1
  have F := q_losesF h.2 h.1 hi
  exact ⟨⟨(rI_loses S h.1 (by rw [jI_t (by omega)]; omega)).1, kP_loses h.2 h.1 hi h76 hl⟩, F.1, F.2⟩
/-- losses keep it, and what is in flight behind -/
theorem q_ltI (S : y_S n M) : ∀ m c (r : q_R), kI t s q z r → c + m ≤ jN (r.1 1606) → (∀ k, c ≤ k → k < c + m → (k : Int) < (r.2 94 0).toInt) → kI t s q z (q_lt m c r) ∧ kF r (q_lt m c r) ∧ (∀ k, (k < c ∨ c + m ≤ k) → (q_lt m c r).2 76 k = r.2 76 k) ∧ (∀ k, c ≤ k → k < c + m → ¬ (q_lt m c r).2 76 k = 0) := by
  intro m
  induction m with
  | zero => intro c r h _ _; exact ⟨h, q_fr0, fun _ _ => rfl, fun k h1 h2 => absurd h2 (by omega)⟩
  | succ m ih =>
    intro c r h hc hl
    have e : q_lt (m + 1) c r = q_lt m (c + 1) (if r.2 76 c = 0 then qF_loses (nI c) r else r) := rfl
    rw [e]
    by_cases c0 : r.2 76 c = 0
    · rw [if_pos c0]
      obtain ⟨h1, f1, f2⟩ := kI_loses S h (by omega) c0 (hl c (by omega) (by omega))
      have f76 : ∀ k, (qF_loses (nI c) r).2 76 k = if k = c then 2 else r.2 76 k := fun k => by rw [f2]; exact ua2
      generalize qF_loses (nI c) r = a at h1 f1 f76
      have e6 : a.1 1606 = r.1 1606 := f1.1 1606 (by decide)
      have e94 : a.2 94 = r.2 94 := f1.2 94 (by decide)
      obtain ⟨k1, k2, k3, k4⟩ := ih (c + 1) a h1 (by rw [e6]; omega) (fun k h1 h2 => by rw [e94]; exact hl k (by omega) (by omega))
      refine ⟨k1, kF_t f1 k2, fun k hk => ?_, fun k hk1 hk2 => ?_⟩
      · rw [k3 k (by omega), f76, if_neg (by omega)]
      · by_cases ck : k = c
        · rw [k3 k (by omega), f76, if_pos ck]; decide
        · exact k4 k (by omega) (by omega)
    · rw [if_neg c0]
      obtain ⟨k1, k2, k3, k4⟩ := ih (c + 1) r h (by omega) (fun k h1 h2 => hl k (by omega) (by omega))
      refine ⟨k1, k2, fun k hk => k3 k (by omega), fun k hk1 hk2 => ?_⟩
      by_cases ck : k = c
      · rw [k3 k (by omega), ck]; exact c0
      · exact k4 k (by omega) (by omega)
theorem q_ltO : ∀ m c (r : q_R), (∀ k, c ≤ k → k < c + m → ¬ r.2 76 k = 0) → q_lt m c r = r := by
  intro m
  induction m with
  | zero => intro c r _; rfl
  | succ m ih =>
    intro c r h
    have e : q_lt (m + 1) c r = q_lt m (c + 1) (if r.2 76 c = 0 then qF_loses (nI c) r else r) := rfl
    rw [e, if_neg (h c (by omega) (by omega))]
    exact ih (c + 1) r (fun k h1 h2 => h k (by omega) (by omega))
theorem q_ltA : ∀ m m2 c (r : q_R), q_lt (m + m2) c r = q_lt m2 (c + m) (q_lt m c r) := by
  intro m
  induction m with
  | zero => intro m2 c r; rw [Nat.zero_add, Nat.add_zero]; rfl
  | succ m ih =>
    intro m2 c r
    have e : q_lt (m + 1 + m2) c r = q_lt (m + m2) (c + 1) (if r.2 76 c = 0 then qF_loses (nI c) r else r) := by rw [show m + 1 + m2 = (m + m2) + 1 by omega]; rfl
    rw [e, ih, show c + 1 + m = c + (m + 1) by omega]
    rfl
/-- the first one in flight is lost, then the others -/
theorem q_lt1 {m i : Nat} (hi : i < m) (h76 : r.2 76 i = 0) (hk : ∀ k, k < i → ¬ r.2 76 k = 0) (h2 : ∀ k, k ≤ i → ¬ (qF_loses (nI i) r).2 76 k = 0) : q_lt m 0 r = q_lt m 0 (qF_loses (nI i) r) := by
  have e1 : q_lt (i + 1) 0 r = qF_loses (nI i) r := by
    rw [q_ltA i 1 0 r, q_ltO i 0 r (fun k _ h => hk k (by omega)), Nat.zero_add]
    show (if r.2 76 i = 0 then qF_loses (nI i) r else r) = _
    rw [if_pos h76]
  have e2 : q_lt (i + 1) 0 (qF_loses (nI i) r) = qF_loses (nI i) r := q_ltO _ _ _ (fun k _ h => h2 k (by omega))
  have em : m = (i + 1) + (m - (i + 1)) := by omega
  rw [em, q_ltA (i + 1) _ 0 r, q_ltA (i + 1) _ 0 (qF_loses (nI i) r), e1, e2]
theorem q_ltS {a c : Nat} : q_lt (a - c) c r = q_lt (a - (c + 1)) (c + 1) (if c < a ∧ r.2 76 c = 0 then qF_loses (nI c) r else r) := by
  by_cases ca : c < a
  · have e : a - c = (a - (c + 1)) + 1 := by omega
    rw [e]
    show q_lt (a - (c + 1)) (c + 1) (if r.2 76 c = 0 then qF_loses (nI c) r else r) = _
    by_cases c0 : r.2 76 c = 0
    · rw [if_pos c0, if_pos ⟨ca, c0⟩]
    · rw [if_neg c0, if_neg (fun h => c0 h.2)]
  · rw [if_neg (fun h => ca h.1), show a - c = 0 by omega, show a - (c + 1) = 0 by omega]
    rfl
/-- losses by order, a number behind another -/
theorem q_byO2 (S : y_S n M) {P a : Nat} (ha : a ≤ P) : ∀ m c (r : q_R), c + m = P → kI t s q z r → jN (r.1 1606) = P → (∀ k, k < P → (pO r k ↔ k < a)) → qF_losesByOrder_2 0 (nI c) r = q_lt (a - c) c r := by
  have e0 : (0 : Int32).toNatClampNeg = 0 := rfl
  intro m
  induction m with
  | zero =>
    intro c r hc h hP hp
    have hb := ri_pk h.1
    have hQ := ri_P h.1
    have hPN := jN_toInt hQ.1
    have hB := qE_losesByOrder_2 0 (nI c) r
    rw [if_pos (by rw [Int32.le_iff_toInt_le, jI_t (by omega)]; omega)] at hB
    rw [qUr_losesByOrder_2 hB, show a - c = 0 by omega]
    rfl
  | succ m ih =>
    intro c r hc h hP hp
    have hb := ri_pk h.1
    have hQ := ri_P h.1
    have hPN := jN_toInt hQ.1
    have hcP : c < jN (r.1 1606) := by omega
    have hB := qE_losesByOrder_2 0 (nI c) r
    rw [if_neg (by rw [Int32.le_iff_toInt_le, jI_t (by omega)]; omega), jI_N (by omega : c < 2147483648), e0, if_pos (h.2.1.2.2.1 c hcP).1] at hB
    have h51 : ∀ a' : q_R, qF_losesByOrder_51 0 (nI c) a' = .inl (0, nI (c + 1), a') := fun a' => by
      have hC := qE_losesByOrder_51 0 (nI c) a'
      exact hC.trans (q_ste (b := nI (c + 1)) (by rw [jI_1, jI_add (by omega)]))
    rw [q_ltS]
    by_cases c0 : r.2 76 c = 0
    · rw [if_pos c0] at hB
      by_cases cp : r.2 94 0 < r.2 82 c + 3
      · rw [if_pos cp] at hB
        have hca : ¬ c < a := fun hh => ((hp c (by omega)).mpr hh) cp
        rw [if_neg (fun hh => hca hh.1), qUl_losesByOrder_2 (hB.trans (h51 r))]
        exact ih (c + 1) r (by omega) h hP hp
      · rw [if_neg cp] at hB
        have hca : c < a := (hp c (by omega)).mp cp
        rw [if_pos ⟨hca, c0⟩]
        replace hB := hB.trans (q_ste (b := qF_loses (nI c) r) rfl)
        obtain ⟨h1, f1, -⟩ := kI_loses S h hcP c0 (pO_94 h.2 h.1 hcP cp)
        generalize qF_loses (nI c) r = b at hB h1 f1 ⊢
        rw [qUl_losesByOrder_2 (hB.trans (h51 b))]
        exact ih (c + 1) b (by omega) h1 (by rw [f1.1 1606 (by decide)]; exact hP) (fun k hk => (pO_c f1).trans (hp k hk))
    · rw [if_neg c0] at hB
      rw [if_neg (fun hh => c0 hh.2), qUl_losesByOrder_2 (hB.trans (h51 r))]
      exact ih (c + 1) r (by omega) h hP hp
theorem q_byO (S : y_S n M) (h : kI t s q z r) {a : Nat} (ha : a ≤ jN (r.1 1606)) (hp : ∀ k, k < jN (r.1 1606) → (pO r k ↔ k < a)) : qF_losesByOrder 0 r = q_lt a 0 r := (qE_losesByOrder 0 r).trans (q_byO2 S ha (jN (r.1 1606)) 0 r (by omega) h rfl hp)
theorem q_byT2 (S : y_S n M) {P a : Nat} (ha : a ≤ P) : ∀ m c (r : q_R), c + m = P → kI t s q z r → jN (r.1 1606) = P → (∀ k, k < P → (pT r k ↔ k < a)) → qF_losesByTime_2 0 (nI c) r = q_lt (a - c) c r := by
  have e0 : (0 : Int32).toNatClampNeg = 0 := rfl
  intro m
  induction m with
  | zero =>
    intro c r hc h hP hp
    have hb := ri_pk h.1
    have hQ := ri_P h.1
    have hPN := jN_toInt hQ.1
    have hB := qE_losesByTime_2 0 (nI c) r
    rw [if_pos (by rw [Int32.le_iff_toInt_le, jI_t (by omega)]; omega)] at hB
    rw [qUr_losesByTime_2 hB, show a - c = 0 by omega]
    rfl
  | succ m ih =>
    intro c r hc h hP hp
    have hb := ri_pk h.1
    have hQ := ri_P h.1
    have hPN := jN_toInt hQ.1
    have hcP : c < jN (r.1 1606) := by omega
    have hB := qE_losesByTime_2 0 (nI c) r
    rw [if_neg (by rw [Int32.le_iff_toInt_le, jI_t (by omega)]; omega), jI_N (by omega : c < 2147483648), e0, q_maxe] at hB
    replace hB := hB.trans (q_ste2 (a := if r.2 87 0 / 8 < r.2 90 0 then r.2 90 0 else r.2 87 0 / 8) (b := r) rfl)
    rw [q_maxe] at hB
    replace hB := hB.trans (q_ste2 (a := kW r) (b := r) rfl)
    rw [if_pos (h.2.1.2.2.1 c hcP).1] at hB
    have h93 : ∀ a' : q_R, qF_losesByTime_93 0 (nI c) a' = .inl (0, nI (c + 1), a') := fun a' => by
      have hC := qE_losesByTime_93 0 (nI c) a'
      exact hC.trans (q_ste (b := nI (c + 1)) (by rw [jI_1, jI_add (by omega)]))
    rw [q_ltS]
    by_cases c0 : r.2 76 c = 0
    · rw [if_pos c0] at hB
      by_cases cp : r.2 94 0 ≤ r.2 82 c
      · rw [if_pos cp] at hB
        have hca : ¬ c < a := fun hh => ((hp c (by omega)).mpr hh).1 cp
        rw [if_neg (fun hh => hca hh.1), qUl_losesByTime_2 (hB.trans (h93 r))]
        exact ih (c + 1) r (by omega) h hP hp
      · rw [if_neg cp] at hB
        by_cases cw : r.1 1536 - r.2 72 c < kW r
        · rw [if_pos cw] at hB
          have hca : ¬ c < a := fun hh => ((hp c (by omega)).mpr hh).2 cw
          rw [if_neg (fun hh => hca hh.1), qUl_losesByTime_2 (hB.trans (h93 r))]
          exact ih (c + 1) r (by omega) h hP hp
        · rw [if_neg cw] at hB
          have hca : c < a := (hp c (by omega)).mp ⟨cp, cw⟩
          rw [if_pos ⟨hca, c0⟩]
          replace hB := hB.trans (q_ste (b := qF_loses (nI c) r) rfl)
          obtain ⟨h1, f1, -⟩ := kI_loses S h hcP c0 (pT_94 h.2 h.1 hcP ⟨cp, cw⟩)
          generalize qF_loses (nI c) r = b at hB h1 f1 ⊢
          rw [qUl_losesByTime_2 (hB.trans (h93 b))]
          exact ih (c + 1) b (by omega) h1 (by rw [f1.1 1606 (by decide)]; exact hP) (fun k hk => (pT_c f1).trans (hp k hk))
    · rw [if_neg c0] at hB
      rw [if_neg (fun hh => c0 hh.2), qUl_losesByTime_2 (hB.trans (h93 r))]
      exact ih (c + 1) r (by omega) h hP hp
theorem q_byT (S : y_S n M) (h : kI t s q z r) {a : Nat} (ha : a ≤ jN (r.1 1606)) (hp : ∀ k, k < jN (r.1 1606) → (pT r k ↔ k < a)) : qF_losesByTime 0 r = q_lt a 0 r := (qE_losesByTime 0 r).trans (q_byT2 S ha (jN (r.1 1606)) 0 r (by omega) h rfl hp)
/-- first those below a, then those below b -/
theorem q_ltM (S : y_S n M) (h : kI t s q z r) {a b : Nat} (ha : a ≤ jN (r.1 1606)) (hl : ∀ k, k < a → (k : Int) < (r.2 94 0).toInt) : q_lt b 0 (q_lt a 0 r) = q_lt (if a < b then b else a) 0 r := by
  obtain ⟨-, -, -, k4⟩ := q_ltI S a 0 r h (by omega) (fun k _ hk => hl k (by omega))
  by_cases c : a < b
  · rw [if_pos c]
    have e : b = a + (b - a) := by omega
    rw [e, q_ltA a (b - a) 0 r, q_ltA a (b - a) 0 (q_lt a 0 r), q_ltO a 0 (q_lt a 0 r) (fun k h1 h2 => k4 k h1 h2)]
  · rw [if_neg c]
    exact q_ltO b 0 _ (fun k h1 h2 => k4 k h1 (by omega))
/-- the path 1 has no packets -/
theorem q_byO1 (h : kI t s q z r) : qF_losesByOrder 1 r = r := by
  have hb := ri_pk h.1
  have hQ := ri_P h.1
  have hPN := jN_toInt hQ.1
  have k : ∀ m c, c + m = jN (r.1 1606) → qF_losesByOrder_2 1 (nI c) r = r := by
    intro m
    induction m with
    | zero =>
      intro c hc
      have hB := qE_losesByOrder_2 1 (nI c) r
      rw [if_pos (by rw [Int32.le_iff_toInt_le, jI_t (by omega)]; omega)] at hB
      exact qUr_losesByOrder_2 hB
    | succ m ih =>
      intro c hc
      have hcP : c < jN (r.1 1606) := by omega
      have hB := qE_losesByOrder_2 1 (nI c) r
      rw [if_neg (by rw [Int32.le_iff_toInt_le, jI_t (by omega)]; omega), jI_N (by omega : c < 2147483648), (h.2.1.2.2.1 c hcP).1, if_neg (by decide)] at hB
      have hC := qE_losesByOrder_51 1 (nI c) r
      replace hC := hC.trans (q_ste (b := nI (c + 1)) (by rw [jI_1, jI_add (by omega)]))
      rw [qUl_losesByOrder_2 (hB.trans hC)]
      exact ih (c + 1) (by omega)
  exact (qE_losesByOrder 1 r).trans (k (jN (r.1 1606)) 0 (by omega))
theorem q_byT1 (h : kI t s q z r) : qF_losesByTime 1 r = r := by
  have hb := ri_pk h.1
  have hQ := ri_P h.1
  have hPN := jN_toInt hQ.1
  have k : ∀ m c, c + m = jN (r.1 1606) → qF_losesByTime_2 1 (nI c) r = r := by
    intro m
    induction m with
    | zero =>
      intro c hc
      have hB := qE_losesByTime_2 1 (nI c) r
      rw [if_pos (by rw [Int32.le_iff_toInt_le, jI_t (by omega)]; omega)] at hB
      exact qUr_losesByTime_2 hB
    | succ m ih =>
      intro c hc
      have hcP : c < jN (r.1 1606) := by omega
      have hB := qE_losesByTime_2 1 (nI c) r
      rw [if_neg (by rw [Int32.le_iff_toInt_le, jI_t (by omega)]; omega), jI_N (by omega : c < 2147483648), q_maxe] at hB
      replace hB := hB.trans (q_ste2 rfl)
      rw [q_maxe] at hB
      replace hB := hB.trans (q_ste2 rfl)
      rw [(h.2.1.2.2.1 c hcP).1, if_neg (by decide)] at hB
      have hC := qE_losesByTime_93 1 (nI c) r
      replace hC := hC.trans (q_ste (b := nI (c + 1)) (by rw [jI_1, jI_add (by omega)]))
      rw [qUl_losesByTime_2 (hB.trans hC)]
      exact ih (c + 1) (by omega)
  exact (qE_losesByTime 1 r).trans (k (jN (r.1 1606)) 0 (by omega))
end JLT
