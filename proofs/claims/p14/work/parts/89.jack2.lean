/-! ===== THE LIKENESS: an ACK is made ===== -/
section JMA
variable {n : Nat} {M M0 M1 M2 : z_Mem} {r r1 : q_R} {TL CL : List Nat} {t s q z : Nat} {d : Int} {f : Nat → Int32}
def q_row4 (T : Nat) (r : q_R) : q_R := ua (ua (ua (ua r 61 (T + 10) (r.2 65 0 + 40)) 61 (T + 11) (r.2 65 1 + 40)) 61 (T + 12) (r.2 65 2 + 40)) 61 (T + 13) (r.2 65 3 + 40)
/-- the cells behind an acknowledgement, ahead of its way -/
def q_ackR (T : Nat) (c : Int32) (r : q_R) : q_R := uf (uf (ua (uf (ua (q_row4 T (ua (ua r 61 T c) 61 (T + 9) (r.1 1576))) 61 (T + 14) (100 + r.2 65 0 + r.2 65 1 + r.2 65 2 + r.2 65 3)) 1561 (r.1 1561 + 1)) 106 4 (r.2 106 4 + 1)) 1573 0) 1574 (-1)
theorem q_ix {T k : Nat} (hT : T < 60000) (hk : k < 1000) : (nI T + nI k).toNatClampNeg = T + k := by rw [jI_add (by omega)]; exact jI_N (by omega)
theorem q_ack92 {T : Nat} {c : Int32} (hT : T < 60000) (r : q_R) : qF_acknowledges_92 (nI T) c r = qF_answers (r.1 1575) 7 (r.1 1561) (q_ackR T c r) := by
  have e0 : (nI T).toNatClampNeg = T := jI_N (by omega)
  have e9 : (nI T + 9).toNatClampNeg = T + 9 := q_ix hT (k := 9) (by decide)
  have e10 : (nI T + 10 + 0).toNatClampNeg = T + 10 := by rw [Int32.add_zero]; exact q_ix hT (k := 10) (by decide)
  have e11 : (nI T + 10 + 1).toNatClampNeg = T + 11 := by rw [show nI T + 10 + 1 = nI T + nI 11 from by rw [Int32.add_assoc]; rfl]; exact q_ix hT (by decide)
  have e12 : (nI T + 10 + 2).toNatClampNeg = T + 12 := by rw [show nI T + 10 + 2 = nI T + nI 12 from by rw [Int32.add_assoc]; rfl]; exact q_ix hT (by decide)
  have e13 : (nI T + 10 + 3).toNatClampNeg = T + 13 := by rw [show nI T + 10 + 3 = nI T + nI 13 from by rw [Int32.add_assoc]; rfl]; exact q_ix hT (by decide)
  have e14 : (nI T + 14).toNatClampNeg = T + 14 := q_ix hT (k := 14) (by decide)
  rw [qE_acknowledges_92, e0, e9]
  refine (q_ste rfl).trans ?_
  refine (q_ste rfl).trans ?_
  have st : ∀ (x4 x5 x6 : Int32) (j : Nat) (rr : q_R), ¬ (4 : Int32) ≤ x5 → (nI T + 10 + x5).toNatClampNeg = j → x5 + 1 = x6 → qF_acknowledges_119 (nI T) x4 x5 rr = qF_acknowledges_119 (nI T) (x4 + rr.2 65 x5.toNatClampNeg) x6 (ua rr 61 j (rr.2 65 x5.toNatClampNeg + 40)) := fun x4 x5 x6 j rr h h2 h3 => by
    have hB := qE_acknowledges_119 (nI T) x4 x5 rr
    rw [if_neg h, h2] at hB
    replace hB := hB.trans (q_ste rfl)
    replace hB := hB.trans (q_ste rfl)
    replace hB := hB.trans (q_ste h3.symm)
    rw [qUl_acknowledges_119 hB, ua_n (by decide)]
  rw [st _ 0 1 (T + 10) _ (by decide) e10 rfl, st _ 1 2 (T + 11) _ (by decide) e11 rfl, st _ 2 3 (T + 12) _ (by decide) e12 rfl, st _ 3 4 (T + 13) _ (by decide) e13 rfl]
  have hB := fun x rr => qE_acknowledges_119 (nI T) x 4 rr
  have fin : ∀ x rr, qF_acknowledges_119 (nI T) x 4 rr = qF_answers (rr.1 1575) 7 (rr.1 1561) (uf (uf (ua (uf (ua rr 61 (T + 14) x) 1561 (rr.1 1561 + 1)) 106 4 (rr.2 106 4 + 1)) 1573 0) 1574 (-1)) := fun x rr => by
    have hB := qE_acknowledges_119 (nI T) x 4 rr
    rw [if_pos (by decide), e14] at hB
    replace hB := hB.trans (q_ste rfl)
    replace hB := hB.trans (q_ste rfl)
    replace hB := hB.trans (q_ste rfl)
    replace hB := hB.trans (q_ste rfl)
    replace hB := hB.trans (q_ste rfl)
    replace hB := hB.trans (q_ste rfl)
    rw [qUr_acknowledges_119 hB]
    have e1 : rr.1 1561 + 1 - 1 = rr.1 1561 := by rw [Int32.add_sub_cancel]
    show qF_answers (rr.1 1575) 7 (rr.1 1561 + 1 - 1) _ = _
    rw [e1]
    rfl
  rw [fin]
  unfold q_ackR q_row4
  rfl
theorem q_ackF (r : q_R) (h0 : 0 ≤ (r.1 1561).toInt) (h1 : (r.1 1561).toInt < 3600) : qF_acknowledges r = qF_answers (r.1 1575) 7 (r.1 1561) (q_ackR (15 * jN (r.1 1561)) (nI (runs (r.2 63) 4 400).length) (q_wr (15 * jN (r.1 1561)) 0 (runs (r.2 63) 4 400) r)) := by
  have e := jN_toInt h0
  have eT : 15 * r.1 1561 = nI (15 * jN (r.1 1561)) := by
    refine jI_of ?_
    rw [i_mulE (show (15 : Int32).toInt = 15 from rfl) rfl (by omega) (by omega)]; omega
  rw [qE_acknowledges, eT]
  refine (q_ste rfl).trans ?_
  have := q_ack14 (T := 15 * jN (r.1 1561)) (by omega) 400 400 0 r (Nat.le_refl _) (Nat.le_refl _) (by omega)
  rw [show (399 : Int32) = nI 400 - 1 from by decide]
  refine this.trans ?_
  rw [Nat.zero_add, Nat.sub_zero, q_ack92 (by omega)]
  obtain ⟨g1, -, -, -⟩ := q_wr1 (T := 15 * jN (r.1 1561)) (runs (r.2 63) 4 400) 0 r
  rw [g1]
/-- the class looks for the greatest number that was taken, or wasn't -/
theorem c_next (S : y_S n M) (h01 : ∀ i, i < 400 → z_ai M (n + 30) i = 0 ∨ z_ai M (n + 30) i = 1) : ∀ b, b ≤ 400 → cF_X8_nextTaken_2 (n + 28) 1 (nI b - 1) M = (nI (hiT (z_ai M (n + 30)) b) - 1, M) ∧ cF_X8_nextTaken_2 (n + 28) 0 (nI b - 1) M = (nI (loT (z_ai M (n + 30)) b) - 1, M) := by
  intro b
  induction b with
  | zero =>
    intro _
    have h1 := cE_X8_nextTaken_2 (n + 28) 1 (nI 0 - 1) M
    have h2 := cE_X8_nextTaken_2 (n + 28) 0 (nI 0 - 1) M
    rw [if_pos (by decide)] at h1 h2
    exact ⟨cUr_X8_nextTaken_2 h1, cUr_X8_nextTaken_2 h2⟩
  | succ b ih =>
    intro hb
    obtain ⟨i1, i2⟩ := ih (by omega)
    rw [j_m1 (by omega)]
    have h1 := cE_X8_nextTaken_2 (n + 28) 1 (nI b) M
    have h2 := cE_X8_nextTaken_2 (n + 28) 0 (nI b) M
    have n400 : ¬ (400 : Int32) ≤ nI b := fun g => by
      have := i_le g (show (400 : Int32).toInt = 400 from rfl) (jI_t (k := b) (by omega))
      omega
    rw [if_neg (jI_nlt0 (by omega)), if_neg n400, s_1033_28 S] at h1 h2
    replace h1 := h1.trans (q_ste (b := n + 30) rfl)
    replace h2 := h2.trans (q_ste (b := n + 30) rfl)
    rw [jI_N (by omega)] at h1 h2
    rcases h01 b (by omega) with c | c
    · rw [if_neg (by rw [c]; decide)] at h1
      rw [if_pos c] at h2
      replace h1 := h1.trans (q_ste (b := nI b - 1) (Int32.sub_eq_add_neg _ _))
      rw [cUl_X8_nextTaken_2 h1, cUr_X8_nextTaken_2 h2, hiT_s c, loT_s c, j_m1 (by omega)]
      exact ⟨i1, rfl⟩
    · rw [if_pos c] at h1
      rw [if_neg (by rw [c]; decide)] at h2
      replace h2 := h2.trans (q_ste (b := nI b - 1) (Int32.sub_eq_add_neg _ _))
      have c' : ¬ z_ai M (n + 30) b = 0 := by rw [c]; decide
      rw [cUr_X8_nextTaken_2 h1, cUl_X8_nextTaken_2 h2, hiT_s2 c', loT_lt c', j_m1 (by omega)]
      exact ⟨rfl, i2⟩
/-- the ranges are written into the ACK -/
def c_wr (A l h : Nat) : Nat → List (Nat × Nat) → z_Mem → z_Mem
  | _, [], M => M
  | j, x :: L, M => c_wr A l h (j + 1) L (z_sfi (z_sai (z_sai M l j (nI x.1)) h j (nI x.2)) 3 A (nI (j + 1)))
theorem c_wr1 {A l h : Nat} (hlh : l ≠ h) (S0 : y_S n M0) (a1 : z_sz M0 ≤ A) (a2 : z_sz M0 ≤ l) (a3 : z_sz M0 ≤ h) : ∀ (L : List (Nat × Nat)) (j : Nat) (M : z_Mem), jE n M0 M → z_fi M 3 A = nI j → jE n M0 (c_wr A l h j L M) ∧ z_sz (c_wr A l h j L M) = z_sz M ∧ z_fi (c_wr A l h j L M) 3 A = nI (j + L.length) ∧ (∀ g a, ¬ (g = 3 ∧ a = A) → z_fi (c_wr A l h j L M) g a = z_fi M g a) ∧ z_fr (c_wr A l h j L M) = z_fr M ∧ (∀ a i, a ≠ l → a ≠ h → z_ai (c_wr A l h j L M) a i = z_ai M a i) ∧ (∀ i, i < j → z_ai (c_wr A l h j L M) l i = z_ai M l i ∧ z_ai (c_wr A l h j L M) h i = z_ai M h i) ∧ (∀ k x, L[k]? = some x → z_ai (c_wr A l h j L M) l (j + k) = nI x.1 ∧ z_ai (c_wr A l h j L M) h (j + k) = nI x.2) := by
  intro L
  induction L with
  | nil => intro j M E h3; exact ⟨E, rfl, h3, fun _ _ _ => rfl, rfl, fun _ _ _ _ => rfl, fun _ _ => ⟨rfl, rfl⟩, fun k x hx => by simp at hx⟩
  | cons y L ih =>
    intro j M E h3
    have E2 : jE n M0 (z_sfi (z_sai (z_sai M l j (nI y.1)) h j (nI y.2)) 3 A (nI (j + 1))) := jE_sfi (jE_sai (jE_sai E S0 a2 rfl) S0 a3 rfl) S0 a1 rfl
    obtain ⟨g1, g2, g3, g4, g5, g6, g7, g8⟩ := ih (j + 1) (z_sfi (z_sai (z_sai M l j (nI y.1)) h j (nI y.2)) 3 A (nI (j + 1))) E2 (by rw [zq_fi_sfi, if_pos rfl, if_pos rfl])
    refine ⟨g1, g2, ?_, fun g a hg => ?_, g5, fun a i b1 b2 => ?_, fun i hi => ?_, fun k x hx => ?_⟩
    · rw [show j + (y :: L).length = j + 1 + L.length from by rw [List.length_cons]; omega]; exact g3
    · refine (g4 g a hg).trans ?_
      rw [zq_fi_sfi]
      by_cases c : g = 3
      · rw [if_pos c, if_neg (fun e => hg ⟨c, e⟩)]; rfl
      · rw [if_neg c]; rfl
    · refine (g6 a i b1 b2).trans ?_
      rw [zq_ai_sfi, zq_ai_sai, if_neg b2, zq_ai_sai, if_neg b1]
    · obtain ⟨q1, q2⟩ := g7 i (by omega)
      refine ⟨q1.trans ?_, q2.trans ?_⟩
      · rw [zq_ai_sfi, zq_ai_sai, if_neg hlh, zq_ai_sai, if_pos rfl, if_neg (by omega)]
      · rw [zq_ai_sfi, zq_ai_sai, if_pos rfl, if_neg (by omega), zq_ai_sai, if_neg (Ne.symm hlh)]
    · cases k with
      | zero =>
        have e : y = x := Option.some.inj hx
        subst e
        obtain ⟨q1, q2⟩ := g7 j (by omega)
        refine ⟨q1.trans ?_, q2.trans ?_⟩
        · rw [zq_ai_sfi, zq_ai_sai, if_neg hlh, zq_ai_sai, if_pos rfl, if_pos rfl]
        · rw [zq_ai_sfi, zq_ai_sai, if_pos rfl, if_pos rfl]
      | succ k =>
        rw [show j + (k + 1) = j + 1 + k from by omega]
        exact g8 k x hx
theorem c_mk20 {A l h : Nat} (hlh : l ≠ h) (S0 : y_S n M0) (a1 : z_sz M0 ≤ A) (a2 : z_sz M0 ≤ l) (a3 : z_sz M0 ≤ h) (h01 : ∀ i, i < 400 → z_ai M0 (n + 30) i = 0 ∨ z_ai M0 (n + 30) i = 1) : ∀ c b j (M : z_Mem), j + c = 4 → b ≤ 400 → jE n M0 M → z_fi M 3 A = nI j → z_fr M 0 A = some l → z_fr M 1 A = some h → cF_X8_makeAck_20 (n + 28) (some A) (nI (hiT (z_ai M0 (n + 30)) b) - 1) (nI j) M = cF_X8_makeAck_60 (n + 28) (some A) (c_wr A l h j (runs (z_ai M0 (n + 30)) c b) M) := by
  have hz := S0.2.2.2
  intro c
  induction c with
  | zero =>
    intro b j M hj hb E h3 f0 f1
    have hB := cE_X8_makeAck_20 (n + 28) (some A) (nI (hiT (z_ai M0 (n + 30)) b) - 1) (nI j) M
    have : j = 4 := by omega
    subst this
    rw [if_pos (by decide)] at hB
    exact cUr_X8_makeAck_20 hB
  | succ c ih =>
    intro b j M hj hb E h3 f0 f1
    have hB := cE_X8_makeAck_20 (n + 28) (some A) (nI (hiT (z_ai M0 (n + 30)) b) - 1) (nI j) M
    rw [if_neg (jI_n4 (by omega))] at hB
    by_cases hz0 : hiT (z_ai M0 (n + 30)) b = 0
    · rw [hz0, if_pos (by decide)] at hB
      rw [hz0, cUr_X8_makeAck_20 hB]
      have : runs (z_ai M0 (n + 30)) (c + 1) b = [] := if_pos hz0
      rw [this]; rfl
    · have hle := hiT_le (f := z_ai M0 (n + 30)) b
      obtain ⟨H, hH⟩ : ∃ H, hiT (z_ai M0 (n + 30)) b = H + 1 := ⟨hiT (z_ai M0 (n + 30)) b - 1, by omega⟩
      have hll := loT_le (f := z_ai M0 (n + 30)) (H + 1)
      have eai : z_ai M (n + 30) = z_ai M0 (n + 30) := funext fun i => E.2.2.2.1 _ _ (by omega)
      have nx := c_next E.2.1 (fun i hi => by rw [eai]; exact h01 i hi)
      rw [eai] at nx
      rw [hH] at hB ⊢
      rw [j_m1 (by omega), if_neg (jI_nlt0 (by omega))] at hB
      have e1 : cF_X8_nextTaken (n + 28) (nI H) 0 M = (nI (loT (z_ai M0 (n + 30)) (H + 1)) - 1, M) := by
        rw [cE_X8_nextTaken]
        have := (nx (H + 1) (by omega)).2
        rw [j_m1 (by omega)] at this
        exact this
      replace hB := hB.trans (q_ste2 e1)
      replace hB := hB.trans (q_ste (b := A) rfl)
      rw [Int32.sub_add_cancel, cE_X0_addRange, h3, if_neg (jI_n4 (by omega)), f0] at hB
      have eA : (q_st (Option.getD (some l) 0) fun a5 => q_st (z_sai M a5 (nI j).toNatClampNeg (nI (loT (z_ai M0 (n + 30)) (H + 1)))) fun M_7 => q_st (Option.getD (z_fr M_7 1 A) 0) fun a10 => q_st (z_sai M_7 a10 (z_fi M_7 3 A).toNatClampNeg (nI H)) fun M_12 => q_st (z_sfi M_12 3 A (z_fi M_12 3 A + 1)) fun M_14 => M_14) = z_sfi (z_sai (z_sai M l j (nI (loT (z_ai M0 (n + 30)) (H + 1)))) h j (nI H)) 3 A (nI (j + 1)) := by
        refine (q_ste (b := l) rfl).trans ?_
        rw [jI_N (by omega)]
        refine (q_ste rfl).trans ?_
        refine (q_ste (b := h) (by rw [zq_fr_sai, f1]; rfl)).trans ?_
        rw [zq_fi_sai, h3, jI_N (by omega)]
        refine (q_ste rfl).trans ?_
        refine (q_ste rfl).trans ?_
        rw [zq_fi_sai, zq_fi_sai, h3, jI_1, jI_add (by show j + 1 < _; omega)]
      rw [eA] at hB
      replace hB := hB.trans (q_ste rfl)
      have E2 : jE n M0 (z_sfi (z_sai (z_sai M l j (nI (loT (z_ai M0 (n + 30)) (H + 1)))) h j (nI H)) 3 A (nI (j + 1))) := jE_sfi (jE_sai (jE_sai E S0 a2 rfl) S0 a3 rfl) S0 a1 rfl
      have eai2 : z_ai (z_sfi (z_sai (z_sai M l j (nI (loT (z_ai M0 (n + 30)) (H + 1)))) h j (nI H)) 3 A (nI (j + 1))) (n + 30) = z_ai M0 (n + 30) := funext fun i => E2.2.2.2.1 _ _ (by omega)
      have nx2 := c_next E2.2.1 (fun i hi => by rw [eai2]; exact h01 i hi)
      rw [eai2] at nx2
      have e2 := (nx2 (loT (z_ai M0 (n + 30)) (H + 1)) (by omega)).1
      replace hB := hB.trans (q_ste2 ((cE_X8_nextTaken _ _ _ _).trans e2))
      replace hB := hB.trans (q_ste (b := nI (j + 1)) (by rw [jI_1, jI_add (by show j + 1 < _; omega)]))
      rw [j_m1 (by omega), cUl_X8_makeAck_20 hB, ih (loT (z_ai M0 (n + 30)) (H + 1)) (j + 1) _ (by omega) (by omega) E2 (by rw [zq_fi_sfi, if_pos rfl, if_pos rfl]) f0 f1]
      have er : runs (z_ai M0 (n + 30)) (c + 1) b = (loT (z_ai M0 (n + 30)) (H + 1), H) :: runs (z_ai M0 (n + 30)) c (loT (z_ai M0 (n + 30)) (H + 1)) := by
        show (if hiT (z_ai M0 (n + 30)) b = 0 then [] else (loT (z_ai M0 (n + 30)) (hiT (z_ai M0 (n + 30)) b), hiT (z_ai M0 (n + 30)) b - 1) :: runs (z_ai M0 (n + 30)) c (loT (z_ai M0 (n + 30)) (hiT (z_ai M0 (n + 30)) b))) = _
        rw [if_neg hz0, hH]; rfl
      rw [er]
      rfl
end JMA
